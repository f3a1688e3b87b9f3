/-! PURE: the reference's reassigning -/
def rw1 (x7 x : Int32) : Int32 := if x7 = 0 then 0 else x
def ru1 (x7 x : Int32) : Int32 := if x7 = 0 then 1 else if x = 0 then 0 else 1
section MR
variable {kc kn kz ko kl kr : Int32} {fw fl fs ff fv fk fp fy fq fi fj fm : Nat → Int32} {ve pa pb : Nat} {P F S : Nat → Nat}
theorem s_mRstep {K : Int32 → (Nat → Int32) → (Nat → Int32) → Prop} {q t i : Nat} {x7 : Int32} (hq : q < 192) (ht : t < 192) (hi : i < 2) (h : K (nI (i + 1)) (upd fw (2 * t + i) (rw1 x7 (fw (2 * q + i)))) (upd fl (2 * t + i) (ru1 x7 (fl (2 * q + i))))) :
    (x7 = 0 → v_Model_reassign_193 K (nI i) 0 (((2 : Int32) * nI t) + nI i) fw fl (nI q) (nI t) x7) ∧ (¬ x7 = 0 → (vp_in (((2 : Int32) * nI q) + nI i) 384 ∧ v_Model_reassign_193 K (nI i) (fw (((2 : Int32) * nI q) + nI i).toNatClampNeg) (((2 : Int32) * nI t) + nI i) fw fl (nI q) (nI t) x7)) := by
  have hqi : vp_in (nI (2 * q + i)) 384 := vp_in_nI (by omega) (by omega)
  have hti : vp_in (nI (2 * t + i)) 384 := vp_in_nI (by omega) (by omega)
  unfold v_Model_reassign_193 v_Model_reassign_224 v_Model_reassign_229
  rw [ix2', ix2', nI_clamp (show 2 * q + i < 2 ^ 31 by omega), nI_clamp (show 2 * t + i < 2 ^ 31 by omega), nI_1]
  unfold rw1 ru1 at h
  by_cases e : x7 = 0
  · rw [if_pos e, if_pos e] at h
    exact ⟨fun _ => ⟨hti, fun _ => ⟨hti, h⟩, fun z => absurd e z⟩, fun z => absurd e z⟩
  · rw [if_neg e, if_neg e] at h
    refine ⟨fun z => absurd z e, fun _ => ⟨hqi, hti, fun z => absurd z e, fun _ => ⟨hqi, fun e2 => ⟨hti, ?_⟩, fun e2 => ⟨hti, ?_⟩⟩⟩⟩
    · rw [if_pos e2] at h; exact h
    · rw [if_neg e2] at h; exact h
theorem s_mR151 (m : MF fv fk fp fy fq fi fj ve pa pb P F S) (ok : okL pa pb P F S) (hv : ve + 1 < 2 ^ 31) {s q t k n : Nat} (hs : s < 192) (hq : q < 192) (ht : t < 192) (hk : hkP F pb s k n) (ok' : okL pa n P (fun a => if a = k then s else F a) (fun a => if a = k then t else S a)) {x5 x6 x7 : Int32} (hx : (x6 = 0 ∧ n = pb ∧ x5 = nI k) ∨ (x6 = 1 ∧ k = pb ∧ n = pb + 1)) (hkl : (-1 : Int32) ≤ kl) {b1 o1 l1 d1 : Int32} {post : Int32 → Int32 → Int32 → Int32 → Int32 → (Nat → Int32) → (Nat → Int32) → (Nat → Int32) → (Nat → Int32) → (Nat → Int32) → (Nat → Int32) → (Nat → Int32) → (Nat → Int32) → (Nat → Int32) → Prop}
    (hy : wk (pt (pa + n) + 2) ko kl kr = (b1, o1, l1, d1))
    (h6 : b1 = 0 → ∀ fv' fk' fp' fy' fq' fi' fj' : Nat → Int32, MF fv' fk' fp' fy' fq' fi' fj' ve pa pb P F S → post (-5) 0 o1 l1 d1 (upd (upd fw (2 * t) (rw1 x7 (fw (2 * q)))) (2 * t + 1) (rw1 x7 (fw (2 * q + 1)))) (upd (upd fl (2 * t) (ru1 x7 (fl (2 * q)))) (2 * t + 1) (ru1 x7 (fl (2 * q + 1)))) fv' fk' fp' fy' fq' fi' fj')
    (h7 : b1 = 1 → ∀ (x : Int32) (fv' fk' fp' fy' fq' fi' fj' : Nat → Int32), ((x7 = 0 ∧ x = 1) ∨ (¬ x7 = 0 ∧ x = 0)) → MF fv' fk' fp' fy' fq' fi' fj' (ve + 1) pa n P (fun a => if a = k then s else F a) (fun a => if a = k then t else S a) → post x 0 o1 l1 d1 (upd (upd fw (2 * t) (rw1 x7 (fw (2 * q)))) (2 * t + 1) (rw1 x7 (fw (2 * q + 1)))) (upd (upd fl (2 * t) (ru1 x7 (fl (2 * q)))) (2 * t + 1) (ru1 x7 (fl (2 * q + 1)))) fv' fk' fp' fy' fq' fi' fj') :
    v_Model_reassign_151 (nI s) (nI q) (nI t) x5 x6 x7 0 ko kl kr fw fl fv fk fp fy fq fi fj kn kz fs ff fm post := by
  have o1' := ok.1
  have o2' := ok.2.1
  have p1' := ok'.1
  have p2' := ok'.2.1
  have hkn : k < n := by rcases hk with h | h <;> omega
  refine ⟨3, ?_⟩
  show vb_Model_reassign_156 (nI s) (nI q) (nI t) x5 x6 x7 0 ko kl kr fv fk fp fy fq fi fj kn kz fs ff fm post (v_Model_reassign_156 (nI s) (nI q) (nI t) x5 x6 x7 0 ko kl kr fv fk fp fy fq fi fj kn kz fs ff fm post 2) (nI 0) fw fl
  refine pk_le 2 0 (fun z => absurd z (by omega)) (fun _ => s_mRstep hq ht (by omega) ?_)
  show vb_Model_reassign_156 (nI s) (nI q) (nI t) x5 x6 x7 0 ko kl kr fv fk fp fy fq fi fj kn kz fs ff fm post (v_Model_reassign_156 (nI s) (nI q) (nI t) x5 x6 x7 0 ko kl kr fv fk fp fy fq fi fj kn kz fs ff fm post 1) (nI 1) (upd fw (2 * t) (rw1 x7 (fw (2 * q)))) (upd fl (2 * t) (ru1 x7 (fl (2 * q))))
  refine pk_le 2 1 (fun z => absurd z (by omega)) (fun _ => s_mRstep hq ht (by omega) ?_)
  rw [pk_un (show 2 * q + 1 ≠ 2 * t by omega), pk_un (show 2 * q + 1 ≠ 2 * t by omega)]
  generalize upd (upd fw (2 * t) (rw1 x7 (fw (2 * q)))) (2 * t + 1) (rw1 x7 (fw (2 * q + 1))) = FW at h6 h7 ⊢
  generalize upd (upd fl (2 * t) (ru1 x7 (fl (2 * q)))) (2 * t + 1) (ru1 x7 (fl (2 * q + 1))) = FL at h6 h7 ⊢
  show vb_Model_reassign_156 (nI s) (nI q) (nI t) x5 x6 x7 0 ko kl kr fv fk fp fy fq fi fj kn kz fs ff fm post (v_Model_reassign_156 (nI s) (nI q) (nI t) x5 x6 x7 0 ko kl kr fv fk fp fy fq fi fj kn kz fs ff fm post 0) (nI 2) FW FL
  refine pk_le 2 2 (fun _ => ?_) (fun z => absurd z (by omega))
  refine s_mCopyR (a := 0) (b := 3) (by omega) (by omega) (by omega) m.1 (by omega) o2' (fun fv' fp' fy' fq' fi' fj' q1 q2 => ⟨in04, in34, ?_⟩)
  have hpv : Pv fv fp fy fq fi fj fv' fp' fy' fq' fi' fj' := fun c hc => q2 c (by omega) (by omega)
  have m' := MF_pv m ok hpv
  have e60 : (60 : Int32) + nI k = nI (60 + k) := nI_add 60 k
  rw [cl3, sb_cl0, m'.1.1, nI_1]
  have hpv2 : Pv fv' fp' fy' fq' fi' fj' (upd fv' 3 (nI (ve + 1))) fp' fy' (upd fq' 3 (nI n)) (upd fi' (60 + k) (nI s)) (upd fj' (60 + k) (nI t)) := by
    intro c hc
    refine ⟨pk_un (by omega), fun ver np nq P F S hn hq2 r => ?_⟩
    obtain ⟨r1, r2, r3, r4, r5⟩ := r
    exact ⟨by rw [pk_un (by omega)]; exact r1, r2, by rw [pk_un (by omega)]; exact r3, r4, fun a ha => by rw [pk_un (by omega), pk_un (by omega)]; exact r5 a ha⟩
  have m2 := MF_pv m' ok hpv2
  have hr3 : rwR (upd fv' 3 (nI (ve + 1))) fp' fy' (upd fq' 3 (nI n)) (upd fi' (60 + k) (nI s)) (upd fj' (60 + k) (nI t)) 3 (ve + 1) pa n P (fun a => if a = k then s else F a) (fun a => if a = k then t else S a) := by
    refine ⟨pk_us, q1.2.1, pk_us, q1.2.2.2.1, fun a ha => ?_⟩
    show upd fi' (60 + k) (nI s) (60 + a) = nI (if a = k then s else F a) ∧ upd fj' (60 + k) (nI t) (60 + a) = nI (if a = k then t else S a)
    by_cases e : a = k
    · rw [if_pos e, if_pos e, e, pk_us, pk_us]; exact ⟨rfl, rfl⟩
    · rw [if_neg e, if_neg e, pk_un (by omega), pk_un (by omega)]
      exact q1.2.2.2.2 a (by rcases hk with h | h <;> omega)
  have hW : v_Model_writesLists 0 kn kz ko kl kr FW FL fs ff (upd fv' 3 (nI (ve + 1))) fk fp' fy' (upd fq' 3 (nI n)) (upd fi' (60 + k) (nI s)) (upd fj' (60 + k) (nI t)) fm (fun r_37 ko_38 kt_39 kr_40 fv_41 fk_42 fp_43 fy_44 fq_45 fi_46 fj_47 => ((¬ r_37 = 0 → ((x7 = 0 → post 1 0 ko_38 kt_39 kr_40 FW FL fv_41 fk_42 fp_43 fy_44 fq_45 fi_46 fj_47) ∧ (¬ x7 = 0 → post 0 0 ko_38 kt_39 kr_40 FW FL fv_41 fk_42 fp_43 fy_44 fq_45 fi_46 fj_47))) ∧ (r_37 = 0 → post (-5) 0 ko_38 kt_39 kr_40 FW FL fv_41 fk_42 fp_43 fy_44 fq_45 fi_46 fj_47))) :=
    s_mwl m2 hkl hr3 ok' hv _ hy (fun e fv' fk' g => ⟨fun z => absurd rfl z, fun _ => h6 e _ _ _ _ _ _ _ g⟩) (fun e fv' fk' fp' fy' fq' fi' fj' g => ⟨fun _ => ⟨fun e7 => h7 e 1 _ _ _ _ _ _ _ (Or.inl ⟨e7, rfl⟩) g, fun e7 => h7 e 0 _ _ _ _ _ _ _ (Or.inr ⟨e7, rfl⟩) g⟩, fun z => absurd z (by decide)⟩)
  have i80 : vp_in (nI (60 + k)) 80 := vp_in_nI (by omega) (by omega)
  have hq0 : fq' 0 = nI pb := m'.1.2.2.1
  rcases hx with ⟨e6, en, e5⟩ | ⟨e6, ek, en⟩
  · subst e6 e5
    refine ⟨fun _ => ?_, fun z => absurd rfl z⟩
    unfold v_Model_reassign_272 v_Model_reassign_324
    rw [e60, sb_cl0, cl3, hq0, nI_clamp (by omega), ← en]
    exact ⟨i80, i80, fun _ => ⟨in04, in34, hW⟩, fun z => absurd rfl z⟩
  · subst e6
    refine ⟨fun z => absurd z (by decide), fun _ => ⟨in04, ?_⟩⟩
    unfold v_Model_reassign_272 v_Model_reassign_324
    rw [hq0, ← ek, e60, sb_cl0, cl3, hq0, nI_clamp (by omega), nI_1, ← en]
    exact ⟨i80, i80, fun z => absurd z (by decide), fun _ => ⟨in04, in34, hW⟩⟩
end MR
