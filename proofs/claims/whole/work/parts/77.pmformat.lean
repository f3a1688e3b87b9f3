/-! PURE: the reference's formatting -/
section MG
variable {kc kn kz ko kl kr : Int32} {fw fl fs ff fv fk fp fy fq fi fj fm : Nat → Int32} {ve pa pb np nq : Nat} {P F S P' F' S' : Nat → Nat}
theorem s_mF197 (m : MF fv fk fp fy fq fi fj ve pa pb P F S) (r3 : rwR fv fp fy fq fi fj 3 (ve + 1) np nq P' F' S') (ok : okL np nq P' F' S') (hv : ve + 1 < 2 ^ 31) {sc : Nat → Int32} (hfs : ∀ i, i < 192 → fs i = sc i) {b0 o0 l0 d0 b1 o1 l1 d1 : Int32} {w0 x0 : Nat → Int32} {post : Int32 → Int32 → Int32 → Int32 → Int32 → Int32 → (Nat → Int32) → (Nat → Int32) → (Nat → Int32) → (Nat → Int32) → (Nat → Int32) → (Nat → Int32) → (Nat → Int32) → (Nat → Int32) → (Nat → Int32) → (Nat → Int32) → Prop}
    (h3 : b0 = 0 → post (-5) 0 kz o0 l0 d0 w0 x0 fv fk fp fy fq fi fj fm) (hy : wk (pt (np + nq) + 2) o0 l0 d0 = (b1, o1, l1, d1))
    (h4 : b0 = 1 → b1 = 0 → ∀ fv' fk' : Nat → Int32, MF fv' fk' fp fy fq fi fj ve pa pb P F S → post (-5) 0 kz o1 l1 d1 w0 x0 fv' fk' fp fy fq fi fj fm)
    (h5 : b0 = 1 → b1 = 1 → ∀ fv' fk' fp' fy' fq' fi' fj' : Nat → Int32, MF fv' fk' fp' fy' fq' fi' fj' (ve + 1) np nq P' F' S' → post (nI (cp (ve + 1) P' np)) 0 1 o1 l1 d1 w0 x0 fv' fk' fp' fy' fq' fi' fj' fm) :
    ∀ (r i : Nat) (o l d : Int32) (w x : Nat → Int32), i + r = 192 → (-1 : Int32) ≤ l → wz sc r i o l d w x = (b0, o0, l0, d0, w0, x0) → v_Model_format_197 0 kz fv fk fp fy fq fi fj fm kn fs ff post (r + 1) (nI i) o l d w x := by
  intro r
  induction r with
  | zero =>
    intro i o l d w x hi hl hz
    simp only [wz, Prod.mk.injEq] at hz
    obtain ⟨z1, z2, z3, z4, z5, z6⟩ := hz
    subst z2 z3 z4 z5 z6
    show vb_Model_format_197 0 kz fv fk fp fy fq fi fj fm kn fs ff post (v_Model_format_197 0 kz fv fk fp fy fq fi fj fm kn fs ff post 0) (nI i) o l d w x
    refine pk_le 192 i (fun _ => ?_) (fun z => absurd z (by omega))
    refine s_mwl m hl r3 ok hv _ hy (fun e fv' fk' q => ⟨fun z => absurd rfl z, fun _ => h4 z1.symm e _ _ q⟩) (fun e fv' fk' fp' fy' fq' fi' fj' q => ⟨fun _ => ?_, fun z => absurd z (by decide)⟩)
    exact s_mCapacity (rwR_0.mp q.1) ok hv (h5 z1.symm e _ _ _ _ _ _ _ q)
  | succ r ih =>
    intro i o l d w x hi hl hz
    show vb_Model_format_197 0 kz fv fk fp fy fq fi fj fm kn fs ff post (v_Model_format_197 0 kz fv fk fp fy fq fi fj fm kn fs ff post (r + 1)) (nI i) o l d w x
    refine pk_le 192 i (fun z => absurd z (by omega)) (fun _ => ⟨vp_in_nI (by omega) (by omega), ?_⟩)
    rw [nI_clamp (by omega), hfs i (by omega)]
    simp only [wz] at hz
    refine ⟨fun e => ?_, fun e => ?_⟩
    · rw [if_neg e] at hz
      show v_Model_format_197 0 kz fv fk fp fy fq fi fj fm kn fs ff post (r + 1) (nI i + 1) o l d w x
      rw [nI_1]
      exact ih (i + 1) o l d w x (by omega) hl hz
    · rw [if_pos e] at hz
      refine s_mWritesOne hl (fun e2 => ⟨fun z => absurd rfl z, fun _ => ?_⟩) (fun e2 => ⟨fun _ => ?_, fun z => absurd z (by decide)⟩)
      · rw [if_pos e2] at hz
        simp only [Prod.mk.injEq] at hz
        obtain ⟨z1, z2, z3, z4, z5, z6⟩ := hz
        subst z2 z3 z4 z5 z6
        exact h3 z1.symm
      · rw [if_neg e2] at hz
        have hh : v_Model_format_197 0 kz fv fk fp fy fq fi fj fm kn fs ff post (r + 1) (nI i + 1) o (nl l) (d + 1) (w2 w i) (w2 x i) := by
          rw [nI_1]
          exact ih (i + 1) o (nl l) (d + 1) (w2 w i) (w2 x i) (by omega) (nl_ge hl e2) hz
        have e0 : (2 : Int32) * nI i = nI (2 * i) := pk_mul 2 i
        have e1 : (2 : Int32) * nI i + 2 = nI (2 * i + 2) := by rw [e0]; exact nI_add _ 2
        rw [e0]
        refine ⟨3, ?_⟩
        show vb_Model_format_227 _ (nI i) o (nl l) (d + 1) (v_Model_format_227 _ (nI i) o (nl l) (d + 1) 2) (nI (2 * i)) w x
        unfold vb_Model_format_227
        rw [e1]
        refine pk_le (2 * i + 2) (2 * i) (fun z => absurd z (by omega)) (fun _ => ⟨vp_in_nI (by omega) (by omega), vp_in_nI (by omega) (by omega), ?_⟩)
        rw [nI_1, nI_clamp (by omega)]
        show vb_Model_format_227 _ (nI i) o (nl l) (d + 1) (v_Model_format_227 _ (nI i) o (nl l) (d + 1) 1) (nI (2 * i + 1)) (upd w (2 * i) 0) (upd x (2 * i) 0)
        unfold vb_Model_format_227
        rw [e1]
        refine pk_le (2 * i + 2) (2 * i + 1) (fun z => absurd z (by omega)) (fun _ => ⟨vp_in_nI (by omega) (by omega), vp_in_nI (by omega) (by omega), ?_⟩)
        rw [nI_1, nI_clamp (by omega)]
        show vb_Model_format_227 _ (nI i) o (nl l) (d + 1) (v_Model_format_227 _ (nI i) o (nl l) (d + 1) 0) (nI (2 * i + 1 + 1)) (upd (upd w (2 * i) 0) (2 * i + 1) 0) (upd (upd x (2 * i) 0) (2 * i + 1) 0)
        unfold vb_Model_format_227
        rw [e1]
        exact pk_le (2 * i + 2) (2 * i + 1 + 1) (fun _ => hh) (fun z => absurd z (by omega))
theorem s_mFormat (m : MF fv fk fp fy fq fi fj ve pa pb P F S) (ok : okL pa pb P F S) (hv : ve + 1 < 2 ^ 31) {sc df : Nat → Int32} (hfs : ∀ i, i < 192 → fs i = sc i) (hff : ∀ i, i < 192 → ff i = df i) (hkl : (-1 : Int32) ≤ kl) (hP : ∀ s, s < 192 → sb df sc F pb s = true → P' (kt (sb df sc F pb) s) = s) {b0 o0 l0 d0 b1 o1 l1 d1 : Int32} {w0 x0 : Nat → Int32} {post : Int32 → Int32 → Int32 → Int32 → Int32 → Int32 → (Nat → Int32) → (Nat → Int32) → (Nat → Int32) → (Nat → Int32) → (Nat → Int32) → (Nat → Int32) → (Nat → Int32) → (Nat → Int32) → (Nat → Int32) → (Nat → Int32) → Prop}
    (h1 : 48 < kt (sb df sc F pb) 192 → ∀ fm', post 0 1 kz ko kl kr fw fl fv fk fp fy fq fi fj fm')
    (h2 : kt (sb df sc F pb) 192 ≤ 48 → ¬ ko = 0 → ∀ fm', post (-5) 0 kz ko kl kr fw fl fv fk fp fy fq fi fj fm')
    (hz : wz sc 176 16 ko kl kr fw fl = (b0, o0, l0, d0, w0, x0))
    (h3 : kt (sb df sc F pb) 192 ≤ 48 → ko = 0 → b0 = 0 → ∀ fv' fp' fy' fq' fm', MF fv' fk fp' fy' fq' fi fj ve pa pb P F S → post (-5) 0 kz o0 l0 d0 w0 x0 fv' fk fp' fy' fq' fi fj fm')
    (hy : wk (pt (kt (sb df sc F pb) 192 + 0) + 2) o0 l0 d0 = (b1, o1, l1, d1))
    (h4 : kt (sb df sc F pb) 192 ≤ 48 → ko = 0 → b0 = 1 → b1 = 0 → ∀ fv' fk' fp' fy' fq' fm', MF fv' fk' fp' fy' fq' fi fj ve pa pb P F S → post (-5) 0 kz o1 l1 d1 w0 x0 fv' fk' fp' fy' fq' fi fj fm')
    (h5 : kt (sb df sc F pb) 192 ≤ 48 → ko = 0 → b0 = 1 → b1 = 1 → ∀ fv' fk' fp' fy' fq' fi' fj' fm', MF fv' fk' fp' fy' fq' fi' fj' (ve + 1) (kt (sb df sc F pb) 192) 0 P' F S → post (nI (cp (ve + 1) P' (kt (sb df sc F pb) 192))) 0 1 o1 l1 d1 w0 x0 fv' fk' fp' fy' fq' fi' fj' fm') :
    v_Model_format kc kn kz ko kl kr fw fl fs ff fv fk fp fy fq fi fj fm post := by
  have r0 := rwR_0.mp m.1
  have hk16 := kt_16 (sb df sc F pb) (sb_16 df sc F pb) 16 (by omega)
  have hkle := kt_le (sb df sc F pb) 192
  have K5 : ∀ (n i : Nat) (fmx : Nat → Int32), 16 ≤ i → i ≤ 192 → 192 < i + n → (∀ s, 16 ≤ s → s < i → fmx s = bI (sb df sc F pb s)) → v_Model_format_5 kc kz ko kl kr fw fl fv fk fp fy fq fi fj kn fs ff post n (nI (kt (sb df sc F pb) i)) (nI i) fmx := by
    intro n
    induction n with
    | zero => intro i fmx g1 g2 g3; omega
    | succ n ih =>
      intro i fmx g1 g2 g3 g4
      have hki := kt_le (sb df sc F pb) i
      show vb_Model_format_5 kc kz ko kl kr fw fl fv fk fp fy fq fi fj kn fs ff post (v_Model_format_5 kc kz ko kl kr fw fl fv fk fp fy fq fi fj kn fs ff post n) (nI (kt (sb df sc F pb) i)) (nI i) fmx
      refine pk_le 192 i (fun w => ?_) (fun w => ?_)
      · have hi : i = 192 := by omega
        subst hi
        refine pk_le (kt (sb df sc F pb) 192) 48 (fun c => ⟨fun z => absurd z (by decide), fun _ => ⟨fun hko => ⟨in04, in34, in34, in34, ?_⟩, fun hko => ⟨fun _ => h2 c hko _, fun z => absurd (by decide) z⟩⟩⟩) (fun c => ⟨fun _ => ⟨fun z => absurd z (by decide), fun _ => h1 c _⟩, fun z => absurd (by decide) z⟩)
        rw [cl3, sb_cl0, r0.1, nI_1]
        have K146 : ∀ (n i : Nat) (fpx fyx : Nat → Int32), 16 ≤ i → i ≤ 192 → 192 < i + n → fpx 3 = nI (kt (sb df sc F pb) i) → (∀ c, c < 3 → fpx c = fp c) → (∀ s, s < i → sb df sc F pb s = true → fyx (144 + kt (sb df sc F pb) s) = nI s) → (∀ k, k < 144 → fyx k = fy k) → v_Model_format_146 0 kz ko kl kr fw fl (upd fv 3 (nI (ve + 1))) fk (upd fq 3 0) fi fj fmx kn fs ff post n (nI i) fpx fyx := by
          intro n
          induction n with
          | zero => intro i fpx fyx g1 g2 g3; omega
          | succ n ih2 =>
            intro i fpx fyx q1 q2 q3 q4 q5 q6 q7
            show vb_Model_format_146 0 kz ko kl kr fw fl (upd fv 3 (nI (ve + 1))) fk (upd fq 3 0) fi fj fmx kn fs ff post (v_Model_format_146 0 kz ko kl kr fw fl (upd fv 3 (nI (ve + 1))) fk (upd fq 3 0) fi fj fmx kn fs ff post n) (nI i) fpx fyx
            refine pk_le 192 i (fun w => ?_) (fun w => ⟨vp_in_nI (by omega) (by omega), ?_⟩)
            · have hi : i = 192 := by omega
              subst hi
              have hpv : Pv fv fp fy fq fi fj (upd fv 3 (nI (ve + 1))) fpx fyx (upd fq 3 0) fi fj := by
                intro c hc
                refine ⟨pk_un (by omega), fun ver np nq P F S hn hq r => ?_⟩
                obtain ⟨r1, r2, r3, r4, r5⟩ := r
                exact ⟨by rw [pk_un (by omega)]; exact r1, by rw [q5 c hc]; exact r2, by rw [pk_un (by omega)]; exact r3, fun k hk => by rw [q7 _ (by omega)]; exact r4 k hk, r5⟩
              have m' := MF_pv m ok hpv
              have hok' : okL (kt (sb df sc F pb) 192) 0 P' F S := okL_ks (fun s h => sb_ge h) hP c
              have hr3 : rwR (upd fv 3 (nI (ve + 1))) fpx fyx (upd fq 3 0) fi fj 3 (ve + 1) (kt (sb df sc F pb) 192) 0 P' F S := by
                refine ⟨pk_us, q4, pk_us, fun k hk => ?_, fun k hk => absurd hk (by omega)⟩
                obtain ⟨s, s1, s2, s3⟩ := kt_surj (sb df sc F pb) k 192 hk
                rw [← s3, hP s s1 s2]
                exact q6 s s1 s2
              exact ⟨177, s_mF197 m' hr3 hok' hv hfs (fun e => h3 c hko e _ _ _ _ _ m') hy (fun e1 e2 fv' fk' q => h4 c hko e1 e2 _ _ _ _ _ _ q) (fun e1 e2 fv' fk' fp' fy' fq' fi' fj' q => h5 c hko e1 e2 _ _ _ _ _ _ _ _ q) 176 16 ko kl kr fw fl (by omega) hkl hz⟩
            · rw [nI_clamp (by omega), g4 i q1 (by omega)]
              cases e : sb df sc F pb i with
              | false =>
                refine ⟨fun _ => ?_, fun z => absurd rfl z⟩
                show v_Model_format_146 0 kz ko kl kr fw fl (upd fv 3 (nI (ve + 1))) fk (upd fq 3 0) fi fj fmx kn fs ff post n (nI i + 1) fpx fyx
                have e3 : kt (sb df sc F pb) (i + 1) = kt (sb df sc F pb) i := by simp only [kt, e]; rfl
                rw [nI_1]
                refine ih2 (i + 1) fpx fyx (by omega) (by omega) (by omega) (by rw [e3]; exact q4) q5 (fun s hs hb => ?_) q7
                by_cases e4 : s = i
                · rw [e4, e] at hb; cases hb
                · exact q6 s (by omega) hb
              | true =>
                have hlt := kt_lt (sb df sc F pb) w e
                have e3 : kt (sb df sc F pb) (i + 1) = kt (sb df sc F pb) i + 1 := by simp only [kt, if_pos e]
                refine ⟨fun z => absurd z (by decide), fun _ => ?_⟩
                have e5 : (144 : Int32) + nI (kt (sb df sc F pb) i) = nI (144 + kt (sb df sc F pb) i) := nI_add 144 _
                rw [cl3, q4, e5, nI_clamp (by omega), nI_1]
                refine ⟨in34, vp_in_nI (by omega) (by omega), in34, in34, ?_⟩
                show v_Model_format_146 0 kz ko kl kr fw fl (upd fv 3 (nI (ve + 1))) fk (upd fq 3 0) fi fj fmx kn fs ff post n (nI i + 1) (upd fpx 3 (nI (kt (sb df sc F pb) i + 1))) (upd fyx (144 + kt (sb df sc F pb) i) (nI i))
                rw [nI_1]
                refine ih2 (i + 1) _ _ (by omega) (by omega) (by omega) (by rw [e3]; exact pk_us) (fun c hc => by rw [pk_un (by omega)]; exact q5 c hc) (fun s hs hb => ?_) (fun k hk => by rw [pk_un (by omega)]; exact q7 k hk)
                by_cases e4 : s = i
                · rw [e4, pk_us]
                · have := kt_lt (sb df sc F pb) (show s < i by omega) hb
                  rw [pk_un (by omega)]
                  exact q6 s (by omega) hb
        refine ⟨177, K146 177 16 _ _ (by omega) (by omega) (by omega) (by rw [hk16]; exact pk_us) (fun c hc => pk_un (by omega)) (fun s hs hb => absurd (sb_ge hb) (by omega)) (fun k hk => rfl)⟩
      · have hin : vp_in (nI i) 192 := vp_in_nI w (by omega)
        have T : sb df sc F pb i = true → v_Model_format_43 (v_Model_format_5 kc kz ko kl kr fw fl fv fk fp fy fq fi fj kn fs ff post n) (nI (kt (sb df sc F pb) i)) (nI i) (nI i) fmx := fun e => by
          refine ⟨hin, hin, ?_⟩
          rw [nI_clamp (by omega), pk_us]
          refine ⟨fun z => absurd z (by decide), fun _ => ?_⟩
          show v_Model_format_5 kc kz ko kl kr fw fl fv fk fp fy fq fi fj kn fs ff post n (nI (kt (sb df sc F pb) i) + 1) (nI i + 1) (upd fmx i 1)
          have e3 : kt (sb df sc F pb) (i + 1) = kt (sb df sc F pb) i + 1 := by simp only [kt, if_pos e]
          rw [nI_1, nI_1, ← e3]
          refine ih (i + 1) _ (by omega) (by omega) (by omega) (fun s s1 s2 => ?_)
          by_cases e4 : s = i
          · rw [e4, pk_us, e]; rfl
          · rw [pk_un e4]; exact g4 s s1 (by omega)
        have Z : sb df sc F pb i = false → v_Model_format_48 (v_Model_format_5 kc kz ko kl kr fw fl fv fk fp fy fq fi fj kn fs ff post n) (nI (kt (sb df sc F pb) i)) (nI i) 0 (nI i) fmx := fun e => by
          refine ⟨hin, hin, ?_⟩
          rw [nI_clamp (by omega), pk_us]
          refine ⟨fun _ => ?_, fun z => absurd (by decide) z⟩
          show v_Model_format_5 kc kz ko kl kr fw fl fv fk fp fy fq fi fj kn fs ff post n (nI (kt (sb df sc F pb) i) + nI 0) (nI i + 1) (upd fmx i 0)
          have e3 : kt (sb df sc F pb) (i + 1) = kt (sb df sc F pb) i + 0 := by simp only [kt, e]; rfl
          rw [nI_1, nI_add, ← e3]
          refine ih (i + 1) _ (by omega) (by omega) (by omega) (fun s s1 s2 => ?_)
          by_cases e4 : s = i
          · rw [e4, pk_us, e]; rfl
          · rw [pk_un e4]; exact g4 s s1 (by omega)
        refine ⟨hin, ?_⟩
        rw [nI_clamp (by omega), hff i w, hfs i w]
        have d16 : decide (16 ≤ i) = true := decide_eq_true g1
        refine ⟨fun e => T (by simp [sb, d16, e]), fun e => ⟨hin, fun e2 => T (by simp [sb, d16, e2]), fun e2 => s_mPairOfFirst r0 ok w ?_⟩⟩
        cases e3 : lf F pb i with
        | none => exact ⟨fun _ => Z (by simp [sb, e, e2, e3]), fun z => absurd (by decide) z⟩
        | some k =>
          have hk := (lf_some e3).1
          have o2 := ok.2.1
          exact ⟨fun z => absurd z (nI_pos (by omega)), fun _ => T (by simp [sb, d16, e3])⟩
  have k0 := K5 177 16 fm (by omega) (by omega) (by omega) (fun s s1 s2 => absurd s2 (by omega))
  rw [hk16] at k0
  exact ⟨177, k0⟩
end MG
