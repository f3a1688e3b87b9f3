/-! PURE: the reference's rows of lists -/
theorem ix48 (a i : Nat) : (48 : Int32) * nI a + nI i = nI (48 * a + i) := by
  rw [show (48 : Int32) = nI 48 from rfl, pk_mul, nI_add]
theorem ix20 (a i : Nat) : (20 : Int32) * nI a + nI i = nI (20 * a + i) := by
  rw [show (20 : Int32) = nI 20 from rfl, pk_mul, nI_add]
/-- row c of the reference's lists, read -/
def rwR (fv fp fy fq fi fj : Nat → Int32) (c ver np nq : Nat) (P F S : Nat → Nat) : Prop := fv c = nI ver ∧ fp c = nI np ∧ fq c = nI nq ∧ (∀ k, k < np → fy (48 * c + k) = nI (P k)) ∧ ∀ k, k < nq → fi (20 * c + k) = nI (F k) ∧ fj (20 * c + k) = nI (S k)
theorem rwR_0 {fv fp fy fq fi fj : Nat → Int32} {ver np nq : Nat} {P F S : Nat → Nat} : rwR fv fp fy fq fi fj 0 ver np nq P F S ↔ moR fv fp fy fq fi fj ver np nq P F S := by
  unfold rwR moR
  simp only [Nat.mul_zero, Nat.zero_add]
section ML
variable {kc kn kz ko kt kr : Int32} {fw fl fs ff fv fk fp fy fq fi fj fm : Nat → Int32} {ver np nq : Nat} {P F S : Nat → Nat}
theorem s_mCopy {a b n1 n2 : Nat} (ha : a < 4) (hb : b < 4) (hne : a ≠ b) (hn1 : n1 ≤ 48) (hn2 : n2 ≤ 20) (e1 : fp a = nI n1) (e2 : fq a = nI n2) {post : (Nat → Int32) → (Nat → Int32) → (Nat → Int32) → (Nat → Int32) → (Nat → Int32) → (Nat → Int32) → Prop}
    (h : ∀ fy' fi' fj' : Nat → Int32, (∀ k, k < n1 → fy' (48 * b + k) = fy (48 * a + k)) → (∀ x, ¬ (48 * b ≤ x ∧ x < 48 * b + 48) → fy' x = fy x) → (∀ k, k < n2 → fi' (20 * b + k) = fi (20 * a + k) ∧ fj' (20 * b + k) = fj (20 * a + k)) → (∀ x, ¬ (20 * b ≤ x ∧ x < 20 * b + 20) → fi' x = fi x ∧ fj' x = fj x) → post (upd fv b (fv a)) (upd fp b (fp a)) fy' (upd fq b (fq a)) fi' fj') :
    v_Model_copyLists kc kn kz ko kt kr fw fl fs ff fv fk fp fy fq fi fj fm (nI a) (nI b) post := by
  have ia : vp_in (nI a) 4 := vp_in_nI ha (by omega)
  have ib : vp_in (nI b) 4 := vp_in_nI hb (by omega)
  have ca : (nI a).toNatClampNeg = a := nI_clamp (by omega)
  have cb : (nI b).toNatClampNeg = b := nI_clamp (by omega)
  refine ⟨ia, ib, ia, ib, ia, ib, n1 + 1, ?_⟩
  rw [ca, cb]
  have K2 : ∀ (n i : Nat) (fy' fi' fj' : Nat → Int32), (∀ k, k < n1 → fy' (48 * b + k) = fy (48 * a + k)) → (∀ x, ¬ (48 * b ≤ x ∧ x < 48 * b + 48) → fy' x = fy x) → i ≤ n2 → n2 < i + n → (∀ k, k < i → fi' (20 * b + k) = fi (20 * a + k) ∧ fj' (20 * b + k) = fj (20 * a + k)) → (∀ x, ¬ (20 * b ≤ x ∧ x < 20 * b + 20) → fi' x = fi x ∧ fj' x = fj x) →
      v_Model_copyLists_78 (upd fv b (fv a)) (upd fp b (fp a)) fy' (upd fq b (fq a)) (nI a) (nI b) post n (nI i) fi' fj' := by
    intro n
    induction n with
    | zero => intro i fy' fi' fj' g1 g2 h1 h2; omega
    | succ n ih =>
      intro i fy' fi' fj' g1 g2 h1 h2 g3 g4
      show vb_Model_copyLists_78 (upd fv b (fv a)) (upd fp b (fp a)) fy' (upd fq b (fq a)) (nI a) (nI b) post (v_Model_copyLists_78 (upd fv b (fv a)) (upd fp b (fp a)) fy' (upd fq b (fq a)) (nI a) (nI b) post n) (nI i) fi' fj'
      refine ⟨ia, ?_⟩
      rw [ca, pk_un hne, e2]
      refine pk_le n2 i (fun w => ?_) (fun w => ?_)
      · rw [e2] at h
        exact h fy' fi' fj' g1 g2 (fun k hk => g3 k (by omega)) g4
      · rw [ix20, ix20, nI_clamp (show 20 * a + i < 2 ^ 31 by omega), nI_clamp (show 20 * b + i < 2 ^ 31 by omega), nI_1]
        have j1 : vp_in (nI (20 * a + i)) 80 := vp_in_nI (by omega) (by omega)
        have j2 : vp_in (nI (20 * b + i)) 80 := vp_in_nI (by omega) (by omega)
        refine ⟨j1, j2, j1, j2, ?_⟩
        have := ih (i + 1) fy' (upd fi' (20 * b + i) (fi' (20 * a + i))) (upd fj' (20 * b + i) (fj' (20 * a + i))) g1 g2 (by omega) (by omega) (fun k hk => ?_) (fun x hx => ?_)
        · rw [e2] at this
          exact this
        · by_cases q : k = i
          · rw [q, pk_us, pk_us]; exact g4 (20 * a + i) (by omega)
          · rw [pk_un (by omega), pk_un (by omega)]; exact g3 k (by omega)
        · rw [pk_un (by omega), pk_un (by omega)]; exact g4 x hx
  have K1 : ∀ (n i : Nat) (fy' : Nat → Int32), i ≤ n1 → n1 < i + n → (∀ k, k < i → fy' (48 * b + k) = fy (48 * a + k)) → (∀ x, ¬ (48 * b ≤ x ∧ x < 48 * b + 48) → fy' x = fy x) →
      v_Model_copyLists_38 (upd fv b (fv a)) (upd fp b (fp a)) (upd fq b (fq a)) fi fj (nI a) (nI b) post n (nI i) fy' := by
    intro n
    induction n with
    | zero => intro i fy' h1 h2; omega
    | succ n ih =>
      intro i fy' h1 h2 g1 g2
      show vb_Model_copyLists_38 (upd fv b (fv a)) (upd fp b (fp a)) (upd fq b (fq a)) fi fj (nI a) (nI b) post (v_Model_copyLists_38 (upd fv b (fv a)) (upd fp b (fp a)) (upd fq b (fq a)) fi fj (nI a) (nI b) post n) (nI i) fy'
      refine ⟨ia, ?_⟩
      rw [ca, pk_un hne, e1]
      refine pk_le n1 i (fun w => ⟨n2 + 1, ?_⟩) (fun w => ?_)
      · rw [← e1]
        exact K2 (n2 + 1) 0 fy' fi fj (fun k hk => g1 k (by omega)) g2 (by omega) (by omega) (fun k hk => by omega) (fun x _ => ⟨rfl, rfl⟩)
      · rw [ix48, ix48, nI_clamp (show 48 * a + i < 2 ^ 31 by omega), nI_clamp (show 48 * b + i < 2 ^ 31 by omega), nI_1]
        refine ⟨vp_in_nI (by omega) (by omega), vp_in_nI (by omega) (by omega), ?_⟩
        have := ih (i + 1) (upd fy' (48 * b + i) (fy' (48 * a + i))) (by omega) (by omega) (fun k hk => ?_) (fun x hx => ?_)
        · rw [e1] at this
          exact this
        · by_cases q : k = i
          · rw [q, pk_us]; exact g2 (48 * a + i) (by omega)
          · rw [pk_un (by omega)]; exact g1 k (by omega)
        · rw [pk_un (by omega)]; exact g2 x hx
  exact K1 (n1 + 1) 0 fy (by omega) (by omega) (fun k hk => by omega) (fun x _ => rfl)
theorem s_mCopyR {a b : Nat} (ha : a < 4) (hb : b < 4) (hne : a ≠ b) (r : rwR fv fp fy fq fi fj a ver np nq P F S) (hn1 : np ≤ 48) (hn2 : nq ≤ 20) {post : (Nat → Int32) → (Nat → Int32) → (Nat → Int32) → (Nat → Int32) → (Nat → Int32) → (Nat → Int32) → Prop}
    (h : ∀ fv' fp' fy' fq' fi' fj' : Nat → Int32, rwR fv' fp' fy' fq' fi' fj' b ver np nq P F S → (∀ c, c < 4 → c ≠ b → fv' c = fv c ∧ ∀ ver np nq P F S, np ≤ 48 → nq ≤ 20 → rwR fv fp fy fq fi fj c ver np nq P F S → rwR fv' fp' fy' fq' fi' fj' c ver np nq P F S) → post fv' fp' fy' fq' fi' fj') :
    v_Model_copyLists kc kn kz ko kt kr fw fl fs ff fv fk fp fy fq fi fj fm (nI a) (nI b) post := by
  obtain ⟨r0, r1, r2, r3, r4⟩ := r
  refine s_mCopy ha hb hne hn1 hn2 r1 r2 (fun fy' fi' fj' g1 g2 g3 g4 => h _ _ _ _ _ _ ⟨?_, ?_, ?_, fun k hk => ?_, fun k hk => ?_⟩ (fun c hc hcb => ⟨pk_un hcb, fun ver np nq P F S q1 q2 q => ⟨?_, ?_, ?_, fun k hk => ?_, fun k hk => ?_⟩⟩))
  · rw [pk_us]; exact r0
  · rw [pk_us]; exact r1
  · rw [pk_us]; exact r2
  · rw [g1 k hk]; exact r3 k hk
  · rw [(g3 k hk).1, (g3 k hk).2]; exact r4 k hk
  · rw [pk_un hcb]; exact q.1
  · rw [pk_un hcb]; exact q.2.1
  · rw [pk_un hcb]; exact q.2.2.1
  · rw [g2 (48 * c + k) (by omega)]; exact q.2.2.2.1 k hk
  · rw [(g4 (20 * c + k) (by omega)).1, (g4 (20 * c + k) (by omega)).2]; exact q.2.2.2.2 k hk
/-- which row a version is written to -/
def rc (ver : Nat) : Nat := if ver % 2 = 1 then 1 else 2
theorem rc_12 (ver : Nat) : rc ver = 1 ∨ rc ver = 2 := by
  unfold rc
  by_cases h : ver % 2 = 1
  · rw [if_pos h]; exact Or.inl rfl
  · rw [if_neg h]; exact Or.inr rfl
theorem s_mWritesLists (hl : (-1 : Int32) ≤ kt) (r : rwR fv fp fy fq fi fj 3 ver np nq P F S) (hn : np + nq ≤ 48) (hq : nq ≤ 20) (hver : ver < 2 ^ 31) {post : Int32 → Int32 → Int32 → Int32 → (Nat → Int32) → (Nat → Int32) → (Nat → Int32) → (Nat → Int32) → (Nat → Int32) → (Nat → Int32) → (Nat → Int32) → Prop} (z : Int32 × Int32 × Int32 × Int32) (hz : wk (pt (np + nq) + 2) ko kt kr = z)
    (hfail : z.1 = 0 → ∀ fv' fk' : Nat → Int32, ((fv' = fv ∧ fk' = fk) ∨ (fv' = upd fv (rc ver) (nI ver) ∧ fk' = upd fk (rc ver) 0)) → post 0 z.2.1 z.2.2.1 z.2.2.2 fv' fk' fp fy fq fi fj)
    (hok : z.1 = 1 → ∀ fv' fk' fp' fy' fq' fi' fj' : Nat → Int32, rwR fv' fp' fy' fq' fi' fj' 0 ver np nq P F S → rwR fv' fp' fy' fq' fi' fj' (rc ver) ver np nq P F S → fk' (rc ver) = 1 → (∀ d, d < 4 → d ≠ rc ver → fk' d = fk d) → (∀ d, d < 4 → d ≠ rc ver → d ≠ 0 → fv' d = fv d) → post 1 z.2.1 z.2.2.1 z.2.2.2 fv' fk' fp' fy' fq' fi' fj') :
    v_Model_writesLists kc kn kz ko kt kr fw fl fs ff fv fk fp fy fq fi fj fm post := by
  have hrc := rc_12 ver
  have main : v_Model_writesLists_17 (nI (rc ver)) ko kt kr fv fk fp fy fq fi fj kc kn kz fw fl fs ff fm post := by
    simp only [wk] at hz
    have ic : vp_in (nI (rc ver)) 4 := vp_in_nI (by omega) (by omega)
    have cc : (nI (rc ver)).toNatClampNeg = rc ver := nI_clamp (by omega)
    refine s_mWritesOne hl (fun e => ⟨fun q => absurd rfl q, fun _ => ?_⟩) (fun e => ⟨fun _ => ⟨ic, in34, ic, in34, in34, pt (np + nq) + 1, ?_⟩, fun q => absurd q (by decide)⟩)
    · rw [if_pos e] at hz
      subst hz
      exact hfail rfl fv fk (Or.inl ⟨rfl, rfl⟩)
    · rw [if_neg e] at hz
      rw [cc, cl3, r.1, r.2.1, r.2.2.1, nI_add]
      show v_Model_writesLists_62 (nI (rc ver)) (nI (np + nq)) (upd fv (rc ver) (nI ver)) (upd fk (rc ver) 0) fp fy fq fi fj kc kn kz fw fl fs ff fm post (pt (np + nq) + 1) (nI (8 * 0)) ko (nl kt) (kr + 1)
      have hL : ∀ (j i : Nat) (o l d : Int32), (-1 : Int32) ≤ l → i ≤ pt (np + nq) → pt (np + nq) < i + j → wk (pt (np + nq) - i + 1) o l d = z → v_Model_writesLists_62 (nI (rc ver)) (nI (np + nq)) (upd fv (rc ver) (nI ver)) (upd fk (rc ver) 0) fp fy fq fi fj kc kn kz fw fl fs ff fm post j (nI (8 * i)) o l d := by
        intro j
        induction j with
        | zero => intro i o l d h0 h1 h2; omega
        | succ j ih =>
          intro i o l d h0 h1 h2 h4
          show vb_Model_writesLists_62 (nI (rc ver)) (nI (np + nq)) (upd fv (rc ver) (nI ver)) (upd fk (rc ver) 0) fp fy fq fi fj kc kn kz fw fl fs ff fm post (v_Model_writesLists_62 (nI (rc ver)) (nI (np + nq)) (upd fv (rc ver) (nI ver)) (upd fk (rc ver) 0) fp fy fq fi fj kc kn kz fw fl fs ff fm post j) (nI (8 * i)) o l d
          unfold pt at h1 h2 h4 ih
          refine pk_le (np + nq) (8 * i) (fun w => ?_) (fun w => ?_)
          · rw [show (np + nq + 7) / 8 - i + 1 = 0 + 1 by omega] at h4
            simp only [wk] at h4
            refine s_mWritesOne h0 (fun e => ⟨fun q => absurd rfl q, fun _ => ?_⟩) (fun e => ⟨fun _ => ?_, fun q => absurd q (by decide)⟩)
            · rw [if_pos e] at h4
              subst h4
              exact hfail rfl _ _ (Or.inr ⟨rfl, rfl⟩)
            · rw [if_neg e] at h4
              subst h4
              have r3 : rwR (upd fv (rc ver) (nI ver)) fp fy fq fi fj 3 ver np nq P F S := ⟨by rw [pk_un (by omega)]; exact r.1, r.2⟩
              refine s_mCopyR (a := 3) (b := rc ver) (by omega) (by omega) (by omega) r3 (by omega) hq (fun fv1 fp1 fy1 fq1 fi1 fj1 g1 g2 => ⟨ic, ?_⟩)
              rw [cc]
              refine s_mCopyR (a := 3) (b := 0) (by omega) (by omega) (by omega) ((g2 3 (by omega) (by omega)).2 _ _ _ _ _ _ (by omega) hq r3) (by omega) hq (fun fv2 fp2 fy2 fq2 fi2 fj2 g3 g4 => ?_)
              refine hok rfl _ _ _ _ _ _ _ g3 ((g4 (rc ver) (by omega) (by omega)).2 _ _ _ _ _ _ (by omega) hq g1) (by rw [pk_us]; rfl) (fun d hd hdc => ?_) (fun d hd hdc hd0 => ?_)
              · rw [pk_un hdc, pk_un hdc]
              · rw [(g4 d hd hd0).1, (g2 d hd hdc).1, pk_un hdc]
          · rw [show (np + nq + 7) / 8 - i + 1 = ((np + nq + 7) / 8 - (i + 1) + 1) + 1 by omega] at h4
            simp only [wk] at h4
            refine s_mWritesOne h0 (fun e => ⟨fun q => absurd rfl q, fun _ => ?_⟩) (fun e => ⟨fun _ => ?_, fun q => absurd q (by decide)⟩)
            · rw [if_pos e] at h4
              subst h4
              exact hfail rfl _ _ (Or.inr ⟨rfl, rfl⟩)
            · rw [if_neg e] at h4
              rw [show nI (8 * i) + 8 = nI (8 * (i + 1)) from nI_add (8 * i) 8]
              exact ih (i + 1) o _ _ (nl_ge h0 e) (by omega) (by omega) h4
      refine hL (pt (np + nq) + 1) 0 ko _ _ (nl_ge hl e) (by omega) (by omega) ?_
      rw [← hz]
      simp only [wk, Nat.sub_zero]
  have e2 : fv (3 : Int32).toNatClampNeg - fv (3 : Int32).toNatClampNeg / 2 * 2 = nI (ver % 2) := by
    rw [cl3, r.1]
    exact pk_rem (d := 2) hver (by omega) (by omega)
  refine ⟨in34, ?_⟩
  rw [e2]
  unfold rc at main
  refine pk_eq (ver % 2) 1 (fun q => ?_) (fun q => ?_) |> fun z => ⟨z.2, z.1⟩
  · rw [if_pos q] at main; exact main
  · rw [if_neg q] at main; exact main
end ML
