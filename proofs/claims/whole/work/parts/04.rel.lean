/-! 04: the relation, the constructors, the methods without loops -/
def sa_I (ca el ge we : Int32) : Prop := ∃ R e h w : Nat, ca = nI (8 * R) ∧ el = nI e ∧ ge = nI (8 * h) ∧ we = nI (8 * w) ∧ 4 ≤ R ∧ R ≤ 32 ∧ 2 ≤ e ∧ e ≤ 8 ∧ h ≤ R ∧ w ≤ R
/-- both sides hold the same fields and the same bytes; the ends are whole records within the capacity -/
def i_Rel (k : Nat) (u : SX) (v : SY) : Prop := ∃ (ca el ge gk gt gp we wt ws wp sd cr bu vk rs : Int32) (lg rc : Nat → Int32), u = (ca, el, ge, gk, gt, gp, we, wt, ws, wp, sd, cr, bu, vk, rs, lg) ∧ v = (ca, el, ge, gk, gt, gp, we, wt, ws, wp, bu, vk, rs, sd, cr, lg, rc) ∧ sa_I ca el ge we
theorem i_up {k : Nat} {u : SX} {v : SY} (h : i_Rel k u v) : i_Rel (k + 3) u v := h
variable {ca el ge gk gt gp we wt ws wp sd cr bu vk rs : Int32} {lg rc : Nat → Int32}
theorem sa_mk {k : Nat} (J : sa_I ca el ge we) : i_Rel k (ca, el, ge, gk, gt, gp, we, wt, ws, wp, sd, cr, bu, vk, rs, lg) (ca, el, ge, gk, gt, gp, we, wt, ws, wp, bu, vk, rs, sd, cr, lg, rc) := ⟨ca, el, ge, gk, gt, gp, we, wt, ws, wp, sd, cr, bu, vk, rs, lg, rc, rfl, rfl, J⟩
theorem sa_I_w0 (J : sa_I ca el ge we) : sa_I ca el ge 0 := by
  obtain ⟨R, e, h, w, a1, a2, a3, a4, b1, b2, b3, b4, b5, b6⟩ := id J
  exact ⟨R, e, h, 0, a1, a2, a3, nI_0.symm, b1, b2, b3, b4, b5, Nat.zero_le _⟩
theorem sa_I_h0 (J : sa_I ca el ge we) : sa_I ca el 0 we := by
  obtain ⟨R, e, h, w, a1, a2, a3, a4, b1, b2, b3, b4, b5, b6⟩ := id J
  exact ⟨R, e, 0, w, a1, a2, nI_0.symm, a4, b1, b2, b3, b4, Nat.zero_le _, b6⟩
/-! the constructors -/
def sa_CL (x lo hi r : Int32) : Prop := (¬ lo ≤ x ∧ r = lo) ∨ (lo ≤ x ∧ ¬ x ≤ hi ∧ r = hi) ∨ (lo ≤ x ∧ x ≤ hi ∧ r = x)
theorem sa_CLe (x lo hi : Int32) : ∃ r, sa_CL x lo hi r := by
  by_cases a : lo ≤ x
  · by_cases b : x ≤ hi
    · exact ⟨x, Or.inr (Or.inr ⟨a, b, rfl⟩)⟩
    · exact ⟨hi, Or.inr (Or.inl ⟨a, b, rfl⟩)⟩
  · exact ⟨lo, Or.inl ⟨a, rfl⟩⟩
theorem sa_CLn {x r : Int32} {a b : Nat} (hab : a ≤ b) (hb : b < 2 ^ 31) (c : sa_CL x (nI a) (nI b) r) : ∃ j, a ≤ j ∧ j ≤ b ∧ r = nI j := by
  rcases c with ⟨_, e⟩ | ⟨_, _, e⟩ | ⟨p, q, e⟩
  · exact ⟨a, Nat.le_refl _, hab, e⟩
  · exact ⟨b, hab, Nat.le_refl _, e⟩
  · have n0 : ¬ x < 0 := Int32.not_lt.mpr (Int32.le_trans (nI_pos' (n := a) (by omega)) p)
    obtain ⟨j, hj, ej⟩ := nI_of n0
    rw [ej] at p q
    exact ⟨j, (nI_leI (by omega) hj).mp p, (nI_leI hj hb).mp q, e.trans ej⟩
theorem sa_xcl {post : Int32 → Prop} {x lo hi r : Int32} (c : sa_CL x lo hi r) (h : post r) : wpX_clamp post x lo hi := by
  unfold wpX_clamp
  rcases c with ⟨a, e⟩ | ⟨a, b, e⟩ | ⟨a, b, e⟩
  · rw [e] at h
    exact br_f a h
  · rw [e] at h
    exact br_t a (br_f b h)
  · rw [e] at h
    exact br_t a (br_t b h)
theorem sa_y39 {post : SY → Prop} {x3 k1 s : Int32} (c : sa_CL k1 2 8 s) (h : post ((8 * x3), s, ge, gk, gt, gp, we, wt, ws, wp, (-1), vk, rs, sd, cr, lg, rc)) : wY_init_39 post k1 x3 ca el ge gk gt gp we wt ws wp bu vk rs sd cr lg rc := by
  unfold wY_init_39 wY_init_51 wY_init_62
  rcases c with ⟨a, e⟩ | ⟨a, b, e⟩ | ⟨a, b, e⟩
  · rw [e] at h
    exact br_f a (br_t (by decide) (nm_e h))
  · rw [e] at h
    exact br_t a (br_f b (nm_e h))
  · rw [e] at h
    exact br_t a (br_t b (nm_e h))
theorem sa_yinit {post : SY → Prop} {k0 k1 r s : Int32} (c0 : sa_CL k0 4 32 r) (c1 : sa_CL k1 2 8 s) (h : post (8 * r, s, 0, 0, 0, 0, 0, 0, 0, 0, (-1), 0, 0, 0, 0, (fun _ => 0), (fun _ => 0))) : wpY_init post k0 k1 := by
  unfold wpY_init wY_init_30
  rcases c0 with ⟨a, e⟩ | ⟨a, b, e⟩ | ⟨a, b, e⟩
  · rw [e] at h
    exact br_f a (br_t (by decide) (sa_y39 c1 h))
  · rw [e] at h
    exact br_t a (br_f b (sa_y39 c1 h))
  · rw [e] at h
    exact br_t a (br_t b (sa_y39 c1 h))
theorem i_vc0 (k0 : Int32) (k1 : Int32) : wpX_init (fun u => wpY_init (fun v => i_Rel 2 u v) k0 k1) k0 k1 := by
  obtain ⟨r, c0⟩ := sa_CLe k0 4 32
  obtain ⟨s, c1⟩ := sa_CLe k1 2 8
  obtain ⟨R, r1, r2, er⟩ := sa_CLn (a := 4) (b := 32) (by decide) (by decide) c0
  obtain ⟨e, e1, e2, es⟩ := sa_CLn (a := 2) (b := 8) (by decide) (by decide) c1
  unfold wpX_init
  refine sa_xcl c0 ?_
  refine nm_e ?_
  refine sa_xcl c1 ?_
  refine sa_yinit c0 c1 ?_
  refine sa_mk ?_
  exact ⟨R, e, 0, 0, by rw [er]; exact sa_8m R, es, nI_0.symm, nI_0.symm, r1, r2, e1, e2, Nat.zero_le _, Nat.zero_le _⟩
theorem i_vc_start {k : Nat} {u : SX} {v : SY} (I : i_Rel k u v) (hk : k + 3 ≤ 1538) (v1 : Int32) : wpX_start (fun r u' => wpY_start (fun r' v' => r' = r ∧ i_Rel (k + 3) u' v') v v1) u v1 := by
  obtain ⟨ca, el, ge, gk, gt, gp, we, wt, ws, wp, sd, cr, bu, vk, rs, lg, rc, rfl, rfl, J⟩ := I
  unfold wpX_start wpY_start
  refine br_c (fun c => ?_) (fun c => ?_)
  · exact br_t c (And.intro rfl (sa_mk (sa_I_h0 J)))
  · exact br_f c (And.intro rfl (sa_mk J))
theorem i_vc_armCrash {k : Nat} {u : SX} {v : SY} (I : i_Rel k u v) (hk : k + 3 ≤ 1538) (v1 : Int32) : wpX_armCrash (fun u' => wpY_armCrash (fun v' => i_Rel (k + 3) u' v') v v1) u v1 := by
  obtain ⟨ca, el, ge, gk, gt, gp, we, wt, ws, wp, sd, cr, bu, vk, rs, lg, rc, rfl, rfl, J⟩ := I
  unfold wpX_armCrash wpY_armCrash
  exact br_c (fun c => br_t c (sa_mk J)) (fun c => br_f c (sa_mk J))
theorem i_vc_crash {k : Nat} {u : SX} {v : SY} (I : i_Rel k u v) (hk : k + 3 ≤ 1538) : wpX_crash (fun r u' => wpY_crash (fun r' v' => r' = r ∧ i_Rel (k + 3) u' v') v) u := by
  obtain ⟨ca, el, ge, gk, gt, gp, we, wt, ws, wp, sd, cr, bu, vk, rs, lg, rc, rfl, rfl, J⟩ := I
  unfold wpX_crash wpX_loseWriter wpY_crash wpY_doCrash
  refine br_c (fun c => br_t c (And.intro rfl (sa_mk J))) (fun c => br_c (fun d => ?_) (fun d => br_f c (br_f d (And.intro rfl (sa_mk J)))))
  exact br_f c (br_t d (And.intro rfl (sa_mk (sa_I_w0 J))))
theorem i_vc_verifyReason {k : Nat} {u : SX} {v : SY} (I : i_Rel k u v) (hk : k + 3 ≤ 1538) : wpX_verifyReason (fun r => wpY_verifyReason (fun r' => r' = r ∧ i_Rel (k + 3) u v) v) u := by
  obtain ⟨ca, el, ge, gk, gt, gp, we, wt, ws, wp, sd, cr, bu, vk, rs, lg, rc, rfl, rfl, J⟩ := I
  unfold wpX_verifyReason wpY_verifyReason
  exact And.intro rfl (sa_mk J)
theorem i_vc_header {k : Nat} {u : SX} {v : SY} (I : i_Rel k u v) (hk : k + 3 ≤ 1538) (v1 : Int32) : wpX_header (fun r => wpY_header (fun r' => r' = r ∧ i_Rel (k + 3) u v) v v1) u v1 := by
  obtain ⟨ca, el, ge, gk, gt, gp, we, wt, ws, wp, sd, cr, bu, vk, rs, lg, rc, rfl, rfl, J⟩ := I
  unfold wpX_header wpY_header
  by_cases c0 : v1 = 0
  · subst c0
    exact br_f (by decide) (br_f (by decide) (br_t rfl (br_t rfl (And.intro rfl (sa_mk J)))))
  by_cases c1 : v1 = 1
  · subst c1
    exact br_f (by decide) (br_f (by decide) (br_f c0 (br_t rfl (br_f c0 (br_t rfl (And.intro rfl (sa_mk J)))))))
  by_cases c2 : v1 = 2
  · subst c2
    exact br_f (by decide) (br_f (by decide) (br_f c0 (br_f c1 (br_t rfl (br_f c0 (br_f c1 (br_t rfl (And.intro rfl (sa_mk J)))))))))
  by_cases c3 : v1 = 3
  · subst c3
    exact br_f (by decide) (br_f (by decide) (br_f c0 (br_f c1 (br_f c2 (br_t rfl (br_f c0 (br_f c1 (br_f c2 (br_t rfl (And.intro rfl (sa_mk J)))))))))))
  refine br_c (fun _ => ?_) (fun _ => br_c (fun _ => ?_) (fun _ => (br_f c0 (br_f c1 (br_f c2 (br_f c3 trivial))))))
  · exact (br_f c0 (br_f c1 (br_f c2 (br_f c3 (And.intro rfl (sa_mk J))))))
  · exact (br_f c0 (br_f c1 (br_f c2 (br_f c3 (And.intro rfl (sa_mk J))))))
theorem i_vc_writer {k : Nat} {u : SX} {v : SY} (I : i_Rel k u v) (hk : k + 3 ≤ 1538) (v1 : Int32) : wpX_writer (fun r => wpY_writer (fun r' => r' = r ∧ i_Rel (k + 3) u v) v v1) u v1 := by
  obtain ⟨ca, el, ge, gk, gt, gp, we, wt, ws, wp, sd, cr, bu, vk, rs, lg, rc, rfl, rfl, J⟩ := I
  unfold wpX_writer wpY_writer
  by_cases c0 : v1 = 0
  · subst c0
    exact br_f (by decide) (br_f (by decide) (br_t rfl (br_t rfl (And.intro rfl (sa_mk J)))))
  by_cases c1 : v1 = 1
  · subst c1
    exact br_f (by decide) (br_f (by decide) (br_f c0 (br_t rfl (br_f c0 (br_t rfl (And.intro rfl (sa_mk J)))))))
  by_cases c2 : v1 = 2
  · subst c2
    exact br_f (by decide) (br_f (by decide) (br_f c0 (br_f c1 (br_t rfl (br_f c0 (br_f c1 (br_t rfl (And.intro rfl (sa_mk J)))))))))
  by_cases c3 : v1 = 3
  · subst c3
    exact br_f (by decide) (br_f (by decide) (br_f c0 (br_f c1 (br_f c2 (br_t rfl (br_f c0 (br_f c1 (br_f c2 (br_t rfl (And.intro rfl (sa_mk J)))))))))))
  by_cases c4 : v1 = 4
  · subst c4
    exact br_f (by decide) (br_f (by decide) (br_f c0 (br_f c1 (br_f c2 (br_f c3 (br_t rfl (br_f c0 (br_f c1 (br_f c2 (br_f c3 (br_t rfl (And.intro rfl (sa_mk J)))))))))))))
  by_cases c5 : v1 = 5
  · subst c5
    exact br_f (by decide) (br_f (by decide) (br_f c0 (br_f c1 (br_f c2 (br_f c3 (br_f c4 (br_t rfl (br_c (fun d => (br_f c0 (br_f c1 (br_f c2 (br_f c3 (br_f c4 (br_t rfl (br_t d (And.intro rfl (sa_mk J)))))))))) (fun d => (br_f c0 (br_f c1 (br_f c2 (br_f c3 (br_f c4 (br_t rfl (br_f d (And.intro rfl (sa_mk J))))))))))))))))))
  by_cases c6 : v1 = 6
  · subst c6
    exact br_f (by decide) (br_f (by decide) (br_f c0 (br_f c1 (br_f c2 (br_f c3 (br_f c4 (br_f c5 (br_t rfl (br_c (fun d => (br_f c0 (br_f c1 (br_f c2 (br_f c3 (br_f c4 (br_f c5 (br_t rfl (br_t d (And.intro rfl (sa_mk J))))))))))) (fun d => (br_f c0 (br_f c1 (br_f c2 (br_f c3 (br_f c4 (br_f c5 (br_t rfl (br_f d (And.intro rfl (sa_mk J))))))))))))))))))))
  by_cases c7 : v1 = 7
  · subst c7
    exact br_f (by decide) (br_f (by decide) (br_f c0 (br_f c1 (br_f c2 (br_f c3 (br_f c4 (br_f c5 (br_f c6 (br_t rfl (br_f c0 (br_f c1 (br_f c2 (br_f c3 (br_f c4 (br_f c5 (br_f c6 (br_t rfl (And.intro rfl (sa_mk J)))))))))))))))))))
  by_cases c8 : v1 = 8
  · subst c8
    exact br_f (by decide) (br_f (by decide) (br_f c0 (br_f c1 (br_f c2 (br_f c3 (br_f c4 (br_f c5 (br_f c6 (br_f c7 (br_t rfl (br_f c0 (br_f c1 (br_f c2 (br_f c3 (br_f c4 (br_f c5 (br_f c6 (br_f c7 (br_t rfl (And.intro rfl (sa_mk J)))))))))))))))))))))
  refine br_c (fun _ => ?_) (fun _ => br_c (fun _ => ?_) (fun _ => (br_f c0 (br_f c1 (br_f c2 (br_f c3 (br_f c4 (br_f c5 (br_f c6 (br_f c7 (br_f c8 trivial)))))))))))
  · exact (br_f c0 (br_f c1 (br_f c2 (br_f c3 (br_f c4 (br_f c5 (br_f c6 (br_f c7 (br_f c8 (And.intro rfl (sa_mk J)))))))))))
  · exact (br_f c0 (br_f c1 (br_f c2 (br_f c3 (br_f c4 (br_f c5 (br_f c6 (br_f c7 (br_f c8 (And.intro rfl (sa_mk J)))))))))))
theorem sa_ix {x y : Int32} {n : Nat} (e : y = nI n) (hn : n < 2 ^ 31) (c : ¬ x < 0) (d : x < y) : ∃ j, j < n ∧ x = nI j := by
  obtain ⟨j, hj, ej⟩ := nI_of c
  rw [e, ej] at d
  exact ⟨j, (nI_ltI hj hn).mp d, ej⟩
theorem i_vc_storedByte {k : Nat} {u : SX} {v : SY} (I : i_Rel k u v) (hk : k + 3 ≤ 1538) (v1 : Int32) : wpX_storedByte (fun r => wpY_storedByte (fun r' => r' = r ∧ i_Rel (k + 3) u v) v v1) u v1 := by
  obtain ⟨ca, el, ge, gk, gt, gp, we, wt, ws, wp, sd, cr, bu, vk, rs, lg, rc, rfl, rfl, J⟩ := I
  obtain ⟨R, e, h, w, a1, a2, a3, a4, b1, b2, b3, b4, b5, b6⟩ := id J
  unfold wpX_storedByte wpX_byteAt wpY_storedByte
  by_cases c : v1 < 0
  · exact br_t c (br_t c (And.intro rfl (sa_mk J)))
  by_cases d : v1 < ca
  · obtain ⟨j, hj, ej⟩ := sa_ix a1 (by omega) c d
    have n : vp_in v1 256 := pk_in j 256 (by omega) ej
    refine br_f c (br_t d ?_)
    refine And.intro n ?_
    refine br_f c (br_t d ?_)
    refine And.intro n ?_
    exact And.intro rfl (sa_mk J)
  · exact br_f c (br_f d (br_f c (br_f d (And.intro rfl (sa_mk J)))))
theorem i_vc_tamper {k : Nat} {u : SX} {v : SY} (I : i_Rel k u v) (hk : k + 3 ≤ 1538) (v1 : Int32) (v2 : Int32) : wpX_tamper (fun r u' => wpY_tamper (fun r' v' => r' = r ∧ i_Rel (k + 3) u' v') v v1 v2) u v1 v2 := by
  obtain ⟨ca, el, ge, gk, gt, gp, we, wt, ws, wp, sd, cr, bu, vk, rs, lg, rc, rfl, rfl, J⟩ := I
  obtain ⟨R, e, h, w, a1, a2, a3, a4, b1, b2, b3, b4, b5, b6⟩ := id J
  unfold wpX_tamper wpX_isOpen wpY_tamper
  by_cases c1 : sd = 0
  · exact br_t c1 (br_t rfl (br_t c1 (And.intro rfl (sa_mk J))))
  refine br_f c1 ?_
  by_cases c2 : cr = 0
  · refine br_t c2 ?_
    refine br_f sa_10 ?_
    by_cases c3 : v1 < 0
    · exact br_t c3 (br_f c1 (br_t c2 (br_t c3 (And.intro rfl (sa_mk J)))))
    by_cases c4 : we ≤ v1
    · exact br_f c3 (br_t c4 (br_f c1 (br_t c2 (br_f c3 (br_t c4 (And.intro rfl (sa_mk J)))))))
    obtain ⟨j, hj, ej⟩ := sa_ix a4 (by omega) c3 (Int32.not_le.mp c4)
    have n : vp_in v1 256 := pk_in j 256 (by omega) ej
    have d : v1 < ca := by
      rw [a1, ej]
      exact nI_lt (by omega) (by omega)
    refine br_f c3 (br_f c4 ?_)
    by_cases c5 : v2 < 0
    · exact br_t c5 (br_f c1 (br_t c2 (br_f c3 (br_f c4 (br_t d (br_t c5 (And.intro rfl (sa_mk J))))))))
    refine br_f c5 ?_
    by_cases c6 : v2 ≤ 255
    · refine br_t c6 (And.intro n (nm_e ?_))
      refine br_f c1 (br_t c2 (br_f c3 (br_f c4 (br_t d (br_f c5 (br_t c6 ?_))))))
      exact And.intro n (nm_e (And.intro rfl (sa_mk J)))
    · exact br_f c6 (br_f c1 (br_t c2 (br_f c3 (br_f c4 (br_t d (br_f c5 (br_f c6 (And.intro rfl (sa_mk J)))))))))
  · exact br_f c2 (br_t rfl (br_f c1 (br_f c2 (And.intro rfl (sa_mk J)))))
