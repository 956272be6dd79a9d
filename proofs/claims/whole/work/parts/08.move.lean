/-! 08: dropRecord and swapRecords -/
variable {ca el ge gk gt gp we wt ws wp sd cr bu vk rs : Int32} {lg rc : Nat → Int32}
def sa_mv : Nat → Nat → (Nat → Int32) → (Nat → Int32)
  | 0, _, L => L
  | n + 1, q, L => sa_mv n (q + 1) (upd L q (vp_nar .byte (L (q + 8))))
def sa_zz : Nat → Nat → (Nat → Int32) → (Nat → Int32)
  | 0, _, L => L
  | n + 1, q, L => sa_zz n (q + 1) (upd L q (vp_nar .byte 0))
theorem sa_ez {L : Nat → Int32} {q : Nat} (h : q < 2 ^ 31) : upd L (nI q).toNatClampNeg (vp_nar .byte 0) = upd L q (vp_nar .byte 0) := by
  rw [nI_clamp h]
theorem sa_em {L : Nat → Int32} {q : Nat} (h : q < 1000) : upd L (nI q).toNatClampNeg (vp_nar .byte (L (nI q + 8).toNatClampNeg)) = upd L q (vp_nar .byte (L (q + 8))) := by
  rw [sa_p8, nI_clamp (n := q) (by omega), nI_clamp (n := q + 8) (by omega)]
theorem sa_xd58 {post : Int32 → SX → Prop} {x2 : Int32} {W : Nat} (hW : W ≤ 256) : ∀ d q : Nat, q + d = W → ∀ L : Nat → Int32, post 1 (ca, el, ge, gk, gt, gp, x2, wt, ws, wp, sd, cr, bu, vk, rs, (sa_zz d q L)) → wX_dropRecord_58 post x2 ca el ge gk gt gp (nI W) wt ws wp sd cr bu vk rs (d + 1) (nI q) L := by
  intro d
  induction d with
  | zero =>
    intro q hq L hp
    exact br_t (nI_le (by omega) (by omega)) hp
  | succ d ih =>
    intro q hq L hp
    refine br_f (nI_ge (by omega) (by omega)) ?_
    refine And.intro (pk_in q 256 (by omega) rfl) ?_
    refine nm_r (sa_ez (by omega)) ?_
    refine nm_r (nI_1 q) ?_
    exact ih (q + 1) (by omega) _ hp
theorem sa_xd30 {post : Int32 → SX → Prop} {M : Nat} (hM : M + 8 ≤ 256) : ∀ d q : Nat, q + d = M → ∀ L : Nat → Int32, post 1 (ca, el, ge, gk, gt, gp, (nI M), wt, ws, wp, sd, cr, bu, vk, rs, (sa_zz 8 M (sa_mv d q L))) → wX_dropRecord_30 post (nI M) ca el ge gk gt gp (nI (M + 8)) wt ws wp sd cr bu vk rs (d + 1) (nI q) L := by
  intro d
  induction d with
  | zero =>
    intro q hq L hp
    refine br_t (nI_le (by omega) (by omega)) ?_
    exact Exists.intro (8 + 1) (sa_xd58 (W := M + 8) hM 8 M rfl L hp)
  | succ d ih =>
    intro q hq L hp
    refine br_f (nI_ge (by omega) (by omega)) ?_
    refine And.intro (pk_in (q + 8) 256 (by omega) (sa_p8 q)) ?_
    refine And.intro (pk_in q 256 (by omega) rfl) ?_
    refine nm_r (sa_em (by omega)) ?_
    refine nm_r (nI_1 q) ?_
    exact ih (q + 1) (by omega) _ hp
theorem sa_m8 {M : Nat} : nI (M + 8) - 8 = nI M := by
  have y : nI (M + 8) - nI 8 = nI (M + 8 - 8) := pk_sub (by omega)
  rw [Nat.add_sub_cancel] at y
  exact y
theorem sa_m9 {M q : Nat} (hM : M < 1000) (hq : q < 1000) : nI (M + 8) - 9 < nI q ↔ M ≤ q := by
  have y : (nI (M + 8) - nI 9).toInt = ((M + 8 : Nat) : Int) - (9 : Nat) := pk_sub_toInt (by omega) (by omega)
  have y' : (nI (M + 8) - 9).toInt = ((M + 8 : Nat) : Int) - (9 : Nat) := y
  rw [Int32.lt_iff_toInt_lt, y', nI_toInt (n := q) (by omega)]
  omega
theorem sa_yd91 {post : Int32 → SY → Prop} {M : Nat} (hM : M + 8 ≤ 256) : ∀ d q : Nat, q + d = M + 8 → ∀ L : Nat → Int32, post 1 (ca, el, ge, gk, gt, gp, (nI M), wt, ws, wp, bu, vk, rs, sd, cr, (sa_zz d q L), rc) → wY_dropRecord_91 post ca el ge gk gt gp (nI (M + 8)) wt ws wp bu vk rs sd cr (d + 1) (nI q) L rc := by
  intro d
  induction d with
  | zero =>
    intro q hq L hp
    refine br_t (nI_le (by omega) (by omega)) ?_
    exact nm_r sa_m8 hp
  | succ d ih =>
    intro q hq L hp
    refine br_f (nI_ge (by omega) (by omega)) ?_
    refine br_f (nI_pos (n := q) (by omega)) ?_
    refine And.intro (pk_in q 256 (by omega) rfl) ?_
    refine nm_r (sa_ez (by omega)) ?_
    refine nm_r (nI_1 q) ?_
    exact ih (q + 1) (by omega) _ hp
theorem sa_yd51 {post : Int32 → SY → Prop} {M : Nat} (hM : M + 8 ≤ 256) : ∀ d q : Nat, q + d = M → ∀ L : Nat → Int32, post 1 (ca, el, ge, gk, gt, gp, (nI M), wt, ws, wp, bu, vk, rs, sd, cr, (sa_zz 8 M (sa_mv d q L)), rc) → wY_dropRecord_51 post ca el ge gk gt gp (nI (M + 8)) wt ws wp bu vk rs sd cr (d + 1) (nI q) L rc := by
  intro d
  induction d with
  | zero =>
    intro q hq L hp
    refine br_t ((sa_m9 (by omega) (by omega)).mpr (by omega)) ?_
    refine nm_r sa_m8 ?_
    exact Exists.intro (8 + 1) (sa_yd91 hM 8 M rfl L hp)
  | succ d ih =>
    intro q hq L hp
    refine br_f (fun z => absurd ((sa_m9 (by omega) (by omega)).mp z) (by omega)) ?_
    refine And.intro (pk_in (q + 8) 256 (by omega) (sa_p8 q)) ?_
    refine And.intro (pk_in q 256 (by omega) rfl) ?_
    refine nm_r (sa_em (by omega)) ?_
    refine nm_r (nI_1 q) ?_
    exact ih (q + 1) (by omega) _ hp
theorem i_vc_dropRecord {k : Nat} {u : SX} {v : SY} (I : i_Rel k u v) (hk : k + 3 ≤ 1538) (v1 : Int32) : wpX_dropRecord (fun r u' => wpY_dropRecord (fun r' v' => r' = r ∧ i_Rel (k + 3) u' v') v v1) u v1 := by
  obtain ⟨ca, el, ge, gk, gt, gp, we, wt, ws, wp, sd, cr, bu, vk, rs, lg, rc, rfl, rfl, J⟩ := I
  obtain ⟨R, e, h, w, a1, a2, a3, a4, b1, b2, b3, b4, b5, b6⟩ := id J
  unfold wpX_dropRecord wpX_isOpen wpX_isWritten wpY_dropRecord
  by_cases c1 : sd = 0
  · exact br_t c1 (br_t rfl (br_t c1 (And.intro rfl (sa_mk J))))
  refine br_f c1 ?_
  by_cases c2 : cr = 0
  · refine br_t c2 ?_
    refine br_f sa_10 ?_
    by_cases c3 : v1 < 0
    · exact br_t c3 (br_t rfl (br_f c1 (br_t c2 (br_t c3 (And.intro rfl (sa_mk J))))))
    refine br_f c3 (And.intro sa_80 ?_)
    by_cases c4 : we / 8 ≤ v1
    · exact br_t c4 (br_t rfl (br_f c1 (br_t c2 (br_f c3 (And.intro sa_80 (br_f (Int32.not_lt.mpr c4) (And.intro rfl (sa_mk J))))))))
    have c5 : v1 < we / 8 := Int32.not_le.mp c4
    have d8 : we / 8 = nI w := by
      rw [a4]
      exact sa_d8 (by omega)
    obtain ⟨j, hj, ej⟩ := sa_ix d8 (by omega) c3 c5
    obtain ⟨m, em⟩ : ∃ m, w = m + 1 := ⟨w - 1, by omega⟩
    have a4' : we = nI (8 * m + 8) := by
      rw [a4, em]
      exact congrArg nI (by omega)
    have lc : we ≤ ca := by
      rw [a4, a1]
      exact nI_le (by omega) (by omega)
    have J1 : sa_I ca el ge (nI (8 * m)) := ⟨R, e, h, m, a1, a2, a3, rfl, b1, b2, b3, b4, b5, by omega⟩
    have e8 : 8 * v1 = nI (8 * j) := by
      rw [ej]
      exact sa_8m j
    refine br_f c4 ?_
    refine br_f sa_10 ?_
    clear J d8 a4
    subst a4'
    refine nm_r sa_m8 ?_
    refine nm_r e8 ?_
    refine Exists.intro (8 * m - 8 * j + 1) (sa_xd30 (by omega) (8 * m - 8 * j) (8 * j) (by omega) lg ?_)
    refine br_f c1 (br_t c2 (br_f c3 (And.intro sa_80 (br_t c5 (br_t lc ?_)))))
    refine nm_r e8 ?_
    refine Exists.intro (8 * m - 8 * j + 1) (sa_yd51 (by omega) (8 * m - 8 * j) (8 * j) (by omega) lg ?_)
    exact And.intro rfl (sa_mk J1)
  · exact br_f c2 (br_t rfl (br_f c1 (br_f c2 (And.intro rfl (sa_mk J)))))
/-! swap -/
def sa_sw (i j : Nat) : Nat → Nat → (Nat → Int32) → (Nat → Int32)
  | 0, _, L => L
  | n + 1, q, L => sa_sw i j n (q + 1) (upd (upd L (8 * i + q) (vp_nar .byte (L (8 * j + q)))) (8 * j + q) (vp_nar .byte (L (8 * i + q))))
theorem sa_8a (i q : Nat) : 8 * nI i + nI q = nI (8 * i + q) := by
  rw [sa_8m, nI_add]
theorem sa_xsw {post : Int32 → SX → Prop} {i j : Nat} (hi : i < 32) (hj : j < 32) : ∀ d q : Nat, q + d = 8 → ∀ L : Nat → Int32, post 1 (ca, el, ge, gk, gt, gp, we, wt, ws, wp, sd, cr, bu, vk, rs, (sa_sw i j d q L)) → wX_swapRecords_32 post (nI i) (nI j) ca el ge gk gt gp we wt ws wp sd cr bu vk rs (d + 1) (nI q) L := by
  intro d
  induction d with
  | zero =>
    intro q hq L hp
    exact br_t (nI_le (a := 8) (b := q) (by omega) (by omega)) hp
  | succ d ih =>
    intro q hq L hp
    have ci : (nI (8 * i + q)).toNatClampNeg = 8 * i + q := nI_clamp (by omega)
    have cj : (nI (8 * j + q)).toNatClampNeg = 8 * j + q := nI_clamp (by omega)
    have ni : vp_in (nI (8 * i + q)) 256 := vp_in_nI (by omega) (by decide)
    have nj : vp_in (nI (8 * j + q)) 256 := vp_in_nI (by omega) (by decide)
    refine br_f (nI_ge (a := q) (b := 8) (by omega) (by decide)) ?_
    refine nm_r (sa_8a i q) ?_
    refine nm_r (sa_8a j q) ?_
    rw [ci, cj]
    refine And.intro ni ?_
    refine nm_e ?_
    refine And.intro nj ?_
    refine And.intro ni ?_
    refine nm_e ?_
    refine And.intro nj ?_
    refine nm_e ?_
    refine nm_r (nI_1 q) ?_
    exact ih (q + 1) (by omega) _ hp
theorem sa_ysw {post : Int32 → SY → Prop} {i j : Nat} (hi : i < 32) (hj : j < 32) : ∀ d q : Nat, q + d = 8 → ∀ L : Nat → Int32, post 1 (ca, el, ge, gk, gt, gp, we, wt, ws, wp, bu, vk, rs, sd, cr, (sa_sw i j d q L), rc) → wY_swapRecords_82 post (nI i) (nI j) ca el ge gk gt gp we wt ws wp bu vk rs sd cr (d + 1) (nI q) L rc := by
  intro d
  induction d with
  | zero =>
    intro q hq L hp
    exact br_t (nI_le (a := 8) (b := q) (by omega) (by omega)) hp
  | succ d ih =>
    intro q hq L hp
    have ci : (nI (8 * i + q)).toNatClampNeg = 8 * i + q := nI_clamp (by omega)
    have cj : (nI (8 * j + q)).toNatClampNeg = 8 * j + q := nI_clamp (by omega)
    have ni : vp_in (nI (8 * i + q)) 256 := vp_in_nI (by omega) (by decide)
    have nj : vp_in (nI (8 * j + q)) 256 := vp_in_nI (by omega) (by decide)
    refine br_f (nI_ge (a := q) (b := 8) (by omega) (by decide)) ?_
    rw [sa_8a i q, sa_8a j q, ci, cj]
    refine And.intro ni ?_
    refine nm_e ?_
    refine And.intro nj ?_
    refine And.intro ni ?_
    refine nm_e ?_
    refine And.intro nj ?_
    refine nm_e ?_
    refine nm_r (nI_1 q) ?_
    exact ih (q + 1) (by omega) _ hp
theorem i_vc_swapRecords {k : Nat} {u : SX} {v : SY} (I : i_Rel k u v) (hk : k + 3 ≤ 1538) (v1 : Int32) (v2 : Int32) : wpX_swapRecords (fun r u' => wpY_swapRecords (fun r' v' => r' = r ∧ i_Rel (k + 3) u' v') v v1 v2) u v1 v2 := by
  obtain ⟨ca, el, ge, gk, gt, gp, we, wt, ws, wp, sd, cr, bu, vk, rs, lg, rc, rfl, rfl, J⟩ := I
  obtain ⟨R, e, h, w, a1, a2, a3, a4, b1, b2, b3, b4, b5, b6⟩ := id J
  have d8 : we / 8 = nI w := by
    rw [a4]
    exact sa_d8 (by omega)
  unfold wpX_swapRecords wpX_isOpen wpX_isWritten wpY_swapRecords
  by_cases c1 : sd = 0
  · exact br_t c1 (br_t rfl (br_t c1 (And.intro rfl (sa_mk J))))
  refine br_f c1 ?_
  by_cases c2 : cr = 0
  · refine br_t c2 ?_
    refine br_f sa_10 ?_
    by_cases c3 : v1 < 0
    · exact br_t c3 (br_t rfl (br_f c1 (br_t c2 (And.intro sa_80 (nm_e (br_t c3 (And.intro rfl (sa_mk J))))))))
    refine br_f c3 (And.intro sa_80 ?_)
    by_cases c4 : we / 8 ≤ v1
    · exact br_t c4 (br_t rfl (br_f c1 (br_t c2 (And.intro sa_80 (nm_e (br_f c3 (br_t c4 (And.intro rfl (sa_mk J)))))))))
    refine br_f c4 (br_f sa_10 ?_)
    by_cases c5 : v2 < 0
    · exact br_t c5 (br_t rfl (br_f c1 (br_t c2 (And.intro sa_80 (nm_e (br_f c3 (br_f c4 (br_t c5 (And.intro rfl (sa_mk J))))))))))
    refine br_f c5 (And.intro sa_80 ?_)
    by_cases c6 : we / 8 ≤ v2
    · exact br_t c6 (br_t rfl (br_f c1 (br_t c2 (And.intro sa_80 (nm_e (br_f c3 (br_f c4 (br_f c5 (br_t c6 (And.intro rfl (sa_mk J)))))))))))
    refine br_f c6 (br_f sa_10 ?_)
    by_cases c7 : v1 = v2
    · exact br_t c7 (br_f c1 (br_t c2 (And.intro sa_80 (nm_e (br_f c3 (br_f c4 (br_f c5 (br_f c6 (br_t c7 (And.intro rfl (sa_mk J)))))))))))
    obtain ⟨i, hi, ei⟩ := sa_ix d8 (by omega) c3 (Int32.not_le.mp c4)
    obtain ⟨j, hj, ej⟩ := sa_ix d8 (by omega) c5 (Int32.not_le.mp c6)
    have l1 : ¬ ca < 8 * v1 + 8 := by
      rw [a1, ei, sa_8m, sa_p8]
      exact nI_nlt (by omega) (by omega)
    have l2 : 8 * v2 + 8 ≤ ca := by
      rw [a1, ej, sa_8m, sa_p8]
      exact nI_le (by omega) (by omega)
    refine br_f c7 ?_
    subst ei ej
    refine Exists.intro (8 + 1) (sa_xsw (by omega) (by omega) 8 0 rfl lg ?_)
    refine br_f c1 (br_t c2 (And.intro sa_80 (nm_e (br_f c3 (br_f c4 (br_f c5 (br_f c6 (br_f c7 (br_f l1 (br_t l2 ?_))))))))))
    refine Exists.intro (8 + 1) (sa_ysw (by omega) (by omega) 8 0 rfl lg ?_)
    exact And.intro rfl (sa_mk J)
  · exact br_f c2 (br_t rfl (br_f c1 (br_f c2 (And.intro rfl (sa_mk J)))))
