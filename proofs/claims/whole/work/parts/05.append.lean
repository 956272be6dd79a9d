/-! 05: append -/
variable {ca el ge gk gt gp we wt ws wp sd cr bu vk rs : Int32} {lg rc : Nat → Int32}
variable {Z K : Int32 → (Nat → Int32) → Prop}
/-- append's tests, passed -/
def sa_ok (v1 v2 sd cr ws el : Int32) (w R : Nat) : Prop := ¬ sd = 0 ∧ cr = 0 ∧ ¬ v1 < 1 ∧ v1 < 255 ∧ ¬ v2 < 0 ∧ v2 ≤ 65535 ∧ ¬ ws = el ∧ (ws + 1 < el → 8 * w + 8 ≤ 8 * R) ∧ (¬ ws + 1 < el → 8 * w + 16 ≤ 8 * R)
theorem sa_ok8 {v1 v2 : Int32} {w R : Nat} (o : sa_ok v1 v2 sd cr ws el w R) : 8 * w + 8 ≤ 8 * R := by
  obtain ⟨_, _, _, _, _, _, _, o8, o9⟩ := o
  by_cases y : ws + 1 < el
  · exact o8 y
  · have := o9 y
    omega
theorem sa_ok16 {v1 v2 : Int32} {w R : Nat} (o : sa_ok v1 v2 sd cr ws el w R) (n : ws + 1 = el) : 8 * (w + 1) + 8 ≤ 8 * R := by
  obtain ⟨_, _, _, _, _, _, _, o8, o9⟩ := o
  have y : ¬ ws + 1 < el := by
    rw [n]
    exact Int32.lt_irrefl
  have := o9 y
  omega
theorem sa_xpass {post : Int32 → Prop} {v1 v2 : Int32} {w R : Nat} (hR : R ≤ 32) (o : sa_ok v1 v2 sd cr ws el w R) (h : post 0) : wpX_appendRefusal post ((nI (8 * R)), el, ge, gk, gt, gp, (nI (8 * w)), wt, ws, wp, sd, cr, bu, vk, rs, lg) v1 v2 := by
  have o0 := sa_ok8 o
  obtain ⟨o1, o2, o3, o4, o5, o6, o7, o8, o9⟩ := o
  unfold wpX_appendRefusal wX_appendRefusal_67
  refine br_f o1 (br_t o2 (br_f o3 (br_t o4 (br_f o5 (br_t o6 (br_c (fun y => ?_) (fun y => ?_)))))))
  · exact br_f o7 (br_t ((sa_le8 (by omega) (by omega)).mpr (o8 y)) h)
  · exact br_f o7 (br_t ((sa_le16 (by omega) (by omega)).mpr (o9 y)) h)
theorem sa_v254 {x : Int32} (h : x < 255) : x ≤ 254 := by
  rw [Int32.lt_iff_toInt_lt] at h
  rw [Int32.le_iff_toInt_le]
  have h1 : (255 : Int32).toInt = 255 := by decide
  have h2 : (254 : Int32).toInt = 254 := by decide
  omega
theorem sa_v255 {x : Int32} (h : ¬ x < 255) : ¬ x ≤ 254 := by
  rw [Int32.lt_iff_toInt_lt] at h
  rw [Int32.le_iff_toInt_le]
  have h1 : (255 : Int32).toInt = 255 := by decide
  have h2 : (254 : Int32).toInt = 254 := by decide
  omega
/-! the class: the ends of append -/
theorem sa_xapp_f {post : Int32 → SX → Prop} {v1 v2 t b : Int32} {L : Nat → Int32} {w R : Nat} (hR : R ≤ 32) (o : sa_ok v1 v2 sd cr ws el w R) (et : sa_tg gk wt v1 (nI (8 * w)) v2 = t) (hr : sa_ws (sa_li w v1 v2 t) bu lg = (false, b, L)) (h : post (-6) ((nI (8 * R)), el, ge, gk, gt, gp, 0, 0, 0, 0, sd, 1, (-1), vk, rs, L)) : wpX_append post ((nI (8 * R)), el, ge, gk, gt, gp, (nI (8 * w)), wt, ws, wp, sd, cr, bu, vk, rs, lg) v1 v2 := by
  have o0 := sa_ok8 o
  unfold wpX_append
  refine sa_xpass hR o ?_
  refine br_t rfl ?_
  refine And.intro sa_80 ?_
  refine nm_r (sa_d8 (by omega)) ?_
  refine sa_xseal (Z := fun _ L' => L' = L) (K := fun _ _ => False) (by omega) rfl et ?_ ?_ (sa_Wf hr rfl)
  · intro b' L' z
    have z' : L' = L := z
    subst z'
    refine br_t rfl ?_
    unfold wpX_loseWriter
    exact h
  · intro b' L' z
    exact False.elim z
theorem sa_xapp_t {post : Int32 → SX → Prop} {v1 v2 t b : Int32} {L : Nat → Int32} {w R : Nat} (hR : R ≤ 32) (o : sa_ok v1 v2 sd cr ws el w R) (et : sa_tg gk wt v1 (nI (8 * w)) v2 = t) (hr : sa_ws (sa_li w v1 v2 t) bu lg = (true, b, L)) (n : ¬ ws + 1 = el) (h : post (nI w) ((nI (8 * R)), el, ge, gk, gt, gp, (nI (8 * w + 8)), t, (ws + 1), wp, sd, cr, b, vk, rs, L)) : wpX_append post ((nI (8 * R)), el, ge, gk, gt, gp, (nI (8 * w)), wt, ws, wp, sd, cr, bu, vk, rs, lg) v1 v2 := by
  have o0 := sa_ok8 o
  unfold wpX_append
  refine sa_xpass hR o ?_
  refine br_t rfl ?_
  refine And.intro sa_80 ?_
  refine nm_r (sa_d8 (by omega)) ?_
  refine sa_xseal (Z := fun _ _ => False) (K := fun b' L' => b' = b ∧ L' = L) (by omega) rfl et ?_ ?_ (sa_Wt hr ⟨rfl, rfl⟩)
  · intro b' L' z
    exact False.elim z
  · intro b' L' z
    obtain ⟨z1, z2⟩ : b' = b ∧ L' = L := z
    subst z1 z2
    refine br_f sa_10 ?_
    refine nm_e ?_
    exact br_f n h
theorem sa_xapp_c {post : Int32 → SX → Prop} {v1 v2 t t2 b : Int32} {L : Nat → Int32} {w R : Nat} (hR : R ≤ 32) (o : sa_ok v1 v2 sd cr ws el w R) (et : sa_tg gk wt v1 (nI (8 * w)) v2 = t) (hr : sa_ws (sa_li w v1 v2 t) bu lg = (true, b, L)) (n : ws + 1 = el) (et2 : sa_tg gk t 255 (nI (8 * (w + 1))) (wp &&& 65535) = t2) (h0 : ∀ b' L', Z b' L' → post (nI w) ((nI (8 * R)), el, ge, gk, gt, gp, 0, 0, 0, 0, sd, 1, (-1), vk, rs, L')) (h2 : ∀ b' L', K b' L' → post (nI w) ((nI (8 * R)), el, (nI (8 * (w + 1) + 8)), (sa_rat gk), t2, (wp + 1), (nI (8 * (w + 1) + 8)), t2, 0, (wp + 1), sd, cr, b', vk, rs, L')) (H : sa_W Z (fun b L => (b = 0 → Z b L) ∧ (¬ b = 0 → K (sa_dec b) L)) (sa_li (w + 1) 255 (wp &&& 65535) t2) b L) : wpX_append post ((nI (8 * R)), el, ge, gk, gt, gp, (nI (8 * w)), wt, ws, wp, sd, cr, bu, vk, rs, lg) v1 v2 := by
  have o0 := sa_ok8 o
  unfold wpX_append
  refine sa_xpass hR o ?_
  refine br_t rfl ?_
  refine And.intro sa_80 ?_
  refine nm_r (sa_d8 (by omega)) ?_
  refine sa_xseal (Z := fun _ _ => False) (K := fun b' L' => b' = b ∧ L' = L) (by omega) rfl et ?_ ?_ (sa_Wt hr ⟨rfl, rfl⟩)
  · intro b' L' z
    exact False.elim z
  · intro b' L' z
    obtain ⟨z1, z2⟩ : b' = b ∧ L' = L := z
    subst z1 z2
    have o16 := sa_ok16 o n
    refine br_f sa_10 ?_
    refine nm_e ?_
    refine br_t n ?_
    refine sa_xcomp (w := w + 1) (by omega) (congrArg nI (by omega)) et2 ?_ ?_ ?_ H
    · intro b1 L1 z
      refine br_t rfl ?_
      unfold wpX_loseWriter
      exact h0 b1 L1 z
    · intro b1 L1 z
      refine br_t rfl ?_
      unfold wpX_loseWriter
      exact h0 b1 L1 z
    · intro b1 L1 z
      refine br_f sa_10 ?_
      exact h2 b1 L1 z
/-! the reference: the same ends -/
theorem sa_yapp_f {post : Int32 → SY → Prop} {v1 v2 t b : Int32} {L : Nat → Int32} {w R : Nat} (hR : R ≤ 32) (o : sa_ok v1 v2 sd cr ws el w R) (et : sa_tg gk wt v1 (nI (8 * w)) v2 = t) (hr : sa_ws (sa_li w v1 v2 t) bu lg = (false, b, L)) (h : ∀ rc', post (-6) ((nI (8 * R)), el, ge, gk, gt, gp, 0, 0, 0, 0, (-1), vk, rs, sd, 1, L, rc')) : wpY_append post ((nI (8 * R)), el, ge, gk, gt, gp, (nI (8 * w)), wt, ws, wp, bu, vk, rs, sd, cr, lg, rc) v1 v2 := by
  have o0 := sa_ok8 o
  have oo := o
  obtain ⟨o1, o2, o3, o4, o5, o6, o7, o8, o9⟩ := o
  unfold wpY_append wY_append_66
  refine br_f o1 (br_t o2 (br_f o3 (br_t (sa_v254 o4) (br_f o5 (br_t o6 (br_c (fun y => br_f o7 (br_t ((sa_le8 (by omega) (by omega)).mpr (o8 y)) ?_)) (fun y => br_f o7 (br_t ((sa_le16 (by omega) (by omega)).mpr (o9 y)) ?_))))))))
  all_goals
    refine And.intro sa_80 ?_
    refine nm_r (sa_d8 (by omega)) ?_
    refine sa_yseal (Z := fun _ L' => L' = L) (K := fun _ _ => False) o0 hR rfl et ?_ ?_ (sa_Wf hr rfl)
    · intro b' L' rc' z
      have z' : L' = L := z
      subst z'
      refine br_t rfl ?_
      exact h rc'
    · intro b' L' rc' z
      exact False.elim z
theorem sa_yapp_t {post : Int32 → SY → Prop} {v1 v2 t b : Int32} {L : Nat → Int32} {w R : Nat} (hR : R ≤ 32) (o : sa_ok v1 v2 sd cr ws el w R) (et : sa_tg gk wt v1 (nI (8 * w)) v2 = t) (hr : sa_ws (sa_li w v1 v2 t) bu lg = (true, b, L)) (n : ¬ ws + 1 = el) (h : ∀ rc', post (nI w) ((nI (8 * R)), el, ge, gk, gt, gp, (nI (8 * w + 8)), t, (ws + 1), wp, b, vk, rs, sd, cr, L, rc')) : wpY_append post ((nI (8 * R)), el, ge, gk, gt, gp, (nI (8 * w)), wt, ws, wp, bu, vk, rs, sd, cr, lg, rc) v1 v2 := by
  have o0 := sa_ok8 o
  have oo := o
  obtain ⟨o1, o2, o3, o4, o5, o6, o7, o8, o9⟩ := o
  unfold wpY_append wY_append_66
  refine br_f o1 (br_t o2 (br_f o3 (br_t (sa_v254 o4) (br_f o5 (br_t o6 (br_c (fun y => br_f o7 (br_t ((sa_le8 (by omega) (by omega)).mpr (o8 y)) ?_)) (fun y => br_f o7 (br_t ((sa_le16 (by omega) (by omega)).mpr (o9 y)) ?_))))))))
  all_goals
    refine And.intro sa_80 ?_
    refine nm_r (sa_d8 (by omega)) ?_
    refine sa_yseal (Z := fun _ _ => False) (K := fun b' L' => b' = b ∧ L' = L) o0 hR rfl et ?_ ?_ (sa_Wt hr ⟨rfl, rfl⟩)
    · intro b' L' rc' z
      exact False.elim z
    · intro b' L' rc' z
      obtain ⟨z1, z2⟩ : b' = b ∧ L' = L := z
      subst z1 z2
      refine br_f sa_10 ?_
      refine nm_e ?_
      exact br_f n (h rc')
theorem sa_yapp_c {post : Int32 → SY → Prop} {v1 v2 t t2 b : Int32} {L : Nat → Int32} {w R : Nat} (hR : R ≤ 32) (o : sa_ok v1 v2 sd cr ws el w R) (et : sa_tg gk wt v1 (nI (8 * w)) v2 = t) (hr : sa_ws (sa_li w v1 v2 t) bu lg = (true, b, L)) (n : ws + 1 = el) (et2 : sa_tg gk t 255 (nI (8 * (w + 1))) (wp &&& 65535) = t2) (h0 : ∀ b' L' rc', Z b' L' → post (nI w) ((nI (8 * R)), el, ge, gk, gt, gp, 0, 0, 0, 0, (-1), vk, rs, sd, 1, L', rc')) (h2 : ∀ b' L' rc', K b' L' → post (nI w) ((nI (8 * R)), el, (nI (8 * (w + 1) + 8)), (sa_rat gk), t2, (wp + 1), (nI (8 * (w + 1) + 8)), t2, 0, (wp + 1), b', vk, rs, sd, cr, L', rc')) (H : sa_W Z (fun b L => (b = 0 → Z b L) ∧ (¬ b = 0 → K (sa_dec b) L)) (sa_li (w + 1) 255 (wp &&& 65535) t2) b L) : wpY_append post ((nI (8 * R)), el, ge, gk, gt, gp, (nI (8 * w)), wt, ws, wp, bu, vk, rs, sd, cr, lg, rc) v1 v2 := by
  have o0 := sa_ok8 o
  have oo := o
  obtain ⟨o1, o2, o3, o4, o5, o6, o7, o8, o9⟩ := o
  unfold wpY_append wY_append_66
  refine br_f o1 (br_t o2 (br_f o3 (br_t (sa_v254 o4) (br_f o5 (br_t o6 (br_c (fun y => br_f o7 (br_t ((sa_le8 (by omega) (by omega)).mpr (o8 y)) ?_)) (fun y => br_f o7 (br_t ((sa_le16 (by omega) (by omega)).mpr (o9 y)) ?_))))))))
  all_goals
    refine And.intro sa_80 ?_
    refine nm_r (sa_d8 (by omega)) ?_
    refine sa_yseal (Z := fun _ _ => False) (K := fun b' L' => b' = b ∧ L' = L) o0 hR rfl et ?_ ?_ (sa_Wt hr ⟨rfl, rfl⟩)
    · intro b' L' rc' z
      exact False.elim z
    · intro b' L' rc' z
      obtain ⟨z1, z2⟩ : b' = b ∧ L' = L := z
      subst z1 z2
      have o16 := sa_ok16 oo n
      refine br_f sa_10 ?_
      refine nm_e ?_
      refine br_t n ?_
      refine sa_ycomp (w := w + 1) o16 hR rfl (congrArg nI (by omega)) et2 ?_ ?_ H
      · intro b1 L1 rc1 z
        exact h0 b1 L1 rc1 z
      · intro b1 L1 rc1 z
        exact h2 b1 L1 rc1 z
/-! append -/
theorem sa_app {k : Nat} {v1 v2 : Int32} {R e h w : Nat} (o : sa_ok v1 v2 sd cr ws el w R) (a2 : el = nI e) (a3 : ge = nI (8 * h)) (b1 : 4 ≤ R) (b2 : R ≤ 32) (b3 : 2 ≤ e) (b4 : e ≤ 8) (b5 : h ≤ R) (b6 : w ≤ R) : wpX_append (fun r u' => wpY_append (fun r' v' => r' = r ∧ i_Rel (k + 3) u' v') ((nI (8 * R)), el, ge, gk, gt, gp, (nI (8 * w)), wt, ws, wp, bu, vk, rs, sd, cr, lg, rc) v1 v2) ((nI (8 * R)), el, ge, gk, gt, gp, (nI (8 * w)), wt, ws, wp, sd, cr, bu, vk, rs, lg) v1 v2 := by
  have o0 := sa_ok8 o
  have J0 : sa_I (nI (8 * R)) el ge 0 := ⟨R, e, h, 0, rfl, a2, a3, nI_0.symm, b1, b2, b3, b4, b5, Nat.zero_le _⟩
  have J1 : sa_I (nI (8 * R)) el ge (nI (8 * w + 8)) := ⟨R, e, h, w + 1, rfl, a2, a3, congrArg nI (by omega), b1, b2, b3, b4, b5, by omega⟩
  rcases hr : sa_ws (sa_li w v1 v2 (sa_tg gk wt v1 (nI (8 * w)) v2)) bu lg with ⟨q, b, L⟩
  cases q with
  | false =>
    refine sa_xapp_f b2 o rfl hr ?_
    refine sa_yapp_f b2 o rfl hr ?_
    intro rc'
    exact And.intro rfl (sa_mk J0)
  | true =>
    by_cases n : ws + 1 = el
    · have o1 := sa_ok16 o n
      have J2 : sa_I (nI (8 * R)) el (nI (8 * (w + 1) + 8)) (nI (8 * (w + 1) + 8)) := ⟨R, e, w + 2, w + 2, rfl, a2, congrArg nI (by omega), congrArg nI (by omega), b1, b2, b3, b4, by omega, by omega⟩
      rcases hr2 : sa_ws (sa_li (w + 1) 255 (wp &&& 65535) (sa_tg gk (sa_tg gk wt v1 (nI (8 * w)) v2) 255 (nI (8 * (w + 1))) (wp &&& 65535))) b L with ⟨q2, b', L'⟩
      cases q2 with
      | false =>
        refine sa_xapp_c (Z := fun _ x => x = L') (K := fun _ _ => False) b2 o rfl hr n rfl ?_ (fun _ _ z => False.elim z) (sa_Wf hr2 rfl)
        intro y x z
        have z' : x = L' := z
        rw [z']
        refine sa_yapp_c (Z := fun _ x' => x' = L') (K := fun _ _ => False) b2 o rfl hr n rfl ?_ (fun _ _ _ z => False.elim z) (sa_Wf hr2 rfl)
        intro y' x' rc' z
        have z' : x' = L' := z
        rw [z']
        exact And.intro rfl (sa_mk J0)
      | true =>
        by_cases c : b' = 0
        · refine sa_xapp_c (Z := fun _ x => x = L') (K := fun _ _ => False) b2 o rfl hr n rfl ?_ (fun _ _ z => False.elim z) (sa_Wt hr2 ⟨fun _ => rfl, fun z => absurd c z⟩)
          intro y x z
          have z' : x = L' := z
          rw [z']
          refine sa_yapp_c (Z := fun _ x' => x' = L') (K := fun _ _ => False) b2 o rfl hr n rfl ?_ (fun _ _ _ z => False.elim z) (sa_Wt hr2 ⟨fun _ => rfl, fun z => absurd c z⟩)
          intro y' x' rc' z
          have z' : x' = L' := z
          rw [z']
          exact And.intro rfl (sa_mk J0)
        · refine sa_xapp_c (Z := fun _ _ => False) (K := fun y x => y = sa_dec b' ∧ x = L') b2 o rfl hr n rfl (fun _ _ z => False.elim z) ?_ (sa_Wt hr2 ⟨fun z => absurd z c, fun _ => ⟨rfl, rfl⟩⟩)
          intro y x z
          obtain ⟨z1, z2⟩ : y = sa_dec b' ∧ x = L' := z
          rw [z1, z2]
          refine sa_yapp_c (Z := fun _ _ => False) (K := fun y x' => y = sa_dec b' ∧ x' = L') b2 o rfl hr n rfl (fun _ _ _ z => False.elim z) ?_ (sa_Wt hr2 ⟨fun z => absurd z c, fun _ => ⟨rfl, rfl⟩⟩)
          intro y' x' rc' z
          obtain ⟨z1, z2⟩ : y' = sa_dec b' ∧ x' = L' := z
          rw [z1, z2]
          exact And.intro rfl (sa_mk J2)
    · refine sa_xapp_t b2 o rfl hr n ?_
      refine sa_yapp_t b2 o rfl hr n ?_
      intro rc'
      exact And.intro rfl (sa_mk J1)
theorem i_vc_append {k : Nat} {u : SX} {v : SY} (I : i_Rel k u v) (hk : k + 3 ≤ 1538) (v1 : Int32) (v2 : Int32) : wpX_append (fun r u' => wpY_append (fun r' v' => r' = r ∧ i_Rel (k + 3) u' v') v v1 v2) u v1 v2 := by
  obtain ⟨ca, el, ge, gk, gt, gp, we, wt, ws, wp, sd, cr, bu, vk, rs, lg, rc, rfl, rfl, J⟩ := I
  obtain ⟨R, e, h, w, a1, a2, a3, a4, b1, b2, b3, b4, b5, b6⟩ := id J
  subst a1 a4
  by_cases o1 : sd = 0
  · unfold wpX_append wpX_appendRefusal wpY_append
    exact br_t o1 (br_f (by decide) (br_t o1 (And.intro rfl (sa_mk J))))
  by_cases o2 : cr = 0
  · by_cases o3 : v1 < 1
    · unfold wpX_append wpX_appendRefusal wpY_append
      exact br_f o1 (br_t o2 (br_t o3 (br_f (by decide) (br_f o1 (br_t o2 (br_t o3 (And.intro rfl (sa_mk J))))))))
    by_cases o4 : v1 < 255
    · by_cases o5 : v2 < 0
      · unfold wpX_append wpX_appendRefusal wpY_append
        exact br_f o1 (br_t o2 (br_f o3 (br_t o4 (br_t o5 (br_f (by decide) (br_f o1 (br_t o2 (br_f o3 (br_t (sa_v254 o4) (br_t o5 (And.intro rfl (sa_mk J))))))))))))
      by_cases o6 : v2 ≤ 65535
      · by_cases o7 : ws = el
        · unfold wpX_append wpX_appendRefusal wX_appendRefusal_67 wpY_append wY_append_66
          refine br_f o1 (br_t o2 (br_f o3 (br_t o4 (br_f o5 (br_t o6 (br_c (fun y => ?_) (fun y => ?_)))))))
          · refine br_t o7 (br_f (by decide) ?_)
            exact br_f o1 (br_t o2 (br_f o3 (br_t (sa_v254 o4) (br_f o5 (br_t o6 (br_t y (br_t o7 (And.intro rfl (sa_mk J)))))))))
          · refine br_t o7 (br_f (by decide) ?_)
            exact br_f o1 (br_t o2 (br_f o3 (br_t (sa_v254 o4) (br_f o5 (br_t o6 (br_f y (br_t o7 (And.intro rfl (sa_mk J)))))))))
        by_cases y : ws + 1 < el
        · by_cases d : 8 * w + 8 ≤ 8 * R
          · exact sa_app ⟨o1, o2, o3, o4, o5, o6, o7, fun _ => d, fun z => absurd y z⟩ a2 a3 b1 b2 b3 b4 b5 b6
          · have d' : ¬ nI (8 * w) + 8 ≤ nI (8 * R) := fun z => d ((sa_le8 (by omega) (by omega)).mp z)
            unfold wpX_append wpX_appendRefusal wX_appendRefusal_67 wpY_append wY_append_66
            refine br_f o1 (br_t o2 (br_f o3 (br_t o4 (br_f o5 (br_t o6 (br_t y (br_f o7 (br_f d' (br_f (by decide) ?_)))))))))
            exact br_f o1 (br_t o2 (br_f o3 (br_t (sa_v254 o4) (br_f o5 (br_t o6 (br_t y (br_f o7 (br_f d' (And.intro rfl (sa_mk J))))))))))
        · by_cases d : 8 * w + 16 ≤ 8 * R
          · exact sa_app ⟨o1, o2, o3, o4, o5, o6, o7, fun z => absurd z y, fun _ => d⟩ a2 a3 b1 b2 b3 b4 b5 b6
          · have d' : ¬ nI (8 * w) + 16 ≤ nI (8 * R) := fun z => d ((sa_le16 (by omega) (by omega)).mp z)
            unfold wpX_append wpX_appendRefusal wX_appendRefusal_67 wpY_append wY_append_66
            refine br_f o1 (br_t o2 (br_f o3 (br_t o4 (br_f o5 (br_t o6 (br_f y (br_f o7 (br_f d' (br_f (by decide) ?_)))))))))
            exact br_f o1 (br_t o2 (br_f o3 (br_t (sa_v254 o4) (br_f o5 (br_t o6 (br_f y (br_f o7 (br_f d' (And.intro rfl (sa_mk J))))))))))
      · unfold wpX_append wpX_appendRefusal wpY_append
        exact br_f o1 (br_t o2 (br_f o3 (br_t o4 (br_f o5 (br_f o6 (br_f (by decide) (br_f o1 (br_t o2 (br_f o3 (br_t (sa_v254 o4) (br_f o5 (br_f o6 (And.intro rfl (sa_mk J))))))))))))))
    · unfold wpX_append wpX_appendRefusal wpY_append
      exact br_f o1 (br_t o2 (br_f o3 (br_f o4 (br_f (by decide) (br_f o1 (br_t o2 (br_f o3 (br_f (sa_v255 o4) (And.intro rfl (sa_mk J))))))))))
  · unfold wpX_append wpX_appendRefusal wpY_append
    exact br_f o1 (br_f o2 (br_f (by decide) (br_f o1 (br_f o2 (And.intro rfl (sa_mk J))))))
