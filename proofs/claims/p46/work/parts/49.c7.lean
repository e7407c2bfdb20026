section C7
variable {sv : Nat} {G : GM} {S : MS} {m : QM} {t : Int}
theorem c_askedByLog {i : Int} (h : CR sv G S m) (hw : WR t S) (hr : RP S) (hi : 0 ≤ i) (hi' : i < mf S 3) : ∃ m', F_X6_askedByLog sv (some (am G i)) m = some (.ok (I (asked S i)), m') ∧ SC sv m m' := by
  have sc : ∀ j, SC sv m (wrR m (sv + 5) (dlg S i) j) := fun j => wrR_sc j
  refine ⟨wrR m (sv + 5) (dlg S i) 5, ?_, sc 5⟩
  unfold F_X6_askedByLog
  simp only [xb_xp, xb_as]
  refine Eq.trans (xb_ok (xl_run (fun j => I j) (fun j => wrR m (sv + 5) (dlg S i) j) 5 2000 (fun j hj => ?_) (fun j hj => ?_) ?_ (by decide))) ?_
  · rw [xp_ap, gl5, d_lt (by omega) (by omega) (by omega) (by omega), decide_eq_true (by omega)]
  · have hC := h.sc (sc j)
    rw [ys7 hC.cf, glm1, os_b hC.cf, xb_ok (c_newestInLog hC hw hr hi hi' (p := j) (d := -1) (by omega) (by omega) (by omega) (by omega)), xb_ok (c_delegateBy hC (kept_RN hw hr i j (-1)))]
    rw [xb_ok (x_sai hC.cf.t5 (by decide) (by omega) (by omega)), xp_ap, gl1, I_add]; rfl
  · rw [xp_ap, gl5, d_lt (by omega) (by omega) (by omega) (by omega), decide_eq_false (by omega)]
  · have hC := h.sc (sc 5)
    have hm := hC.mt i hi hi'
    rw [ys7 hC.cf, om hm]
    exact c_askedIf hC hw hr hi hi' (fun p h0 h1 => by
      rw [wrR_get 5 p.toNat (by omega), show ((p.toNat : Nat) : Int) = p by omega])
theorem q_answerByLog {p i d : Int} (h : CR sv G S m) (hs : SI t S) (pl : -2147483648 ≤ p) (ph : p < 2147483648) (il : -2147483648 ≤ i) (ih : i < 2147483648) (dl : -2147483648 ≤ d) (dh : d < 2147483648) : OUT sv (F_X6_answerByLog sv (I i) (I p) (I d)) m (rs3 (gPM S p i) (gD d) (gND S p i d) (I (ansOf S i p d))) S := by
  unfold F_X6_answerByLog
  simp only [xb_xp, xb_as]
  by_cases g : gPM S p i = true
  · have q := gPM_d g
    have hm := h.mt i q.2.1 q.2.2
    by_cases g2 : gD d = true
    · have q2 := gD_d g2
      have e3 : gND S p i d = gN S i d := by unfold gND; rw [g, g2]; rfl
      have e4 : (gD d && hl (ml S 23 (ma S 5 i)) d) = gN S i d := by rw [g2]; rfl
      by_cases g3 : gN S i d = true
      · obtain ⟨m', e, c⟩ := c_askedByLog h hs.wr hs.rp q.2.1 q.2.2
        refine OUT.s h c ?_
        have h' := h.sc c
        have hm' := h'.mt i q.2.1 q.2.2
        have hx := hs.wr.mt q.2.1 q.2.2
        have hd := hs.wr.dl hx.2.1.1 hx.2.1.2 q2.1 q2.2
        have hn := hs.wr.nn
        rw [mp h hs.wr pl ph il ih, if_pos g, xb_need (c_needDay dl dh), if_pos g2, ym2 hm, ov_b hm.now, xb_ok (c_isDate hm.now dl dh), e4, xb_need (c_needState _ _), if_pos g3, rs3_4 g g2 (e3.trans g3), os_b h.cf, xb_ok e, c_isIn, xb_xp, b2ne]
        unfold ansOf
        by_cases a : hb (asked S i) p = true
        · rw [a, if_neg (by decide), if_pos rfl, os_b h'.cf, xb_ok (c_newestInLog h' hs.wr hs.rp q.2.1 q.2.2 q.1.1 q.1.2 (by omega) q2.2), glm1, os_b h'.cf, xb_ok (c_newestInLog h' hs.wr hs.rp q.2.1 q.2.2 q.1.1 q.1.2 (by omega) (by omega)), ym2 hm', ov_b hm'.now, xb_ok (c_standOf hm'.now q2.1 q2.2)]
          unfold answers
          rw [(ans_two hs.wr hs.rp i p d _).2]
          exact c_answerBy h' hs.wr (kept_RN hs.wr hs.rp i p d) (kept_RN hs.wr hs.rp i p (-1)) (by omega) (by omega)
        · rw [Bool.eq_false_iff.mpr a, if_pos (by decide), if_neg (by decide), xp_ap, glm1]
      · refine OUT.q h ?_
        rw [mp h hs.wr pl ph il ih, if_pos g, xb_need (c_needDay dl dh), if_pos g2, ym2 hm, ov_b hm.now, xb_ok (c_isDate hm.now dl dh), e4, xb_need (c_needState _ _), if_neg g3, rs3_3 g g2 (by rw [e3]; exact g3)]
    · refine OUT.q h ?_
      rw [mp h hs.wr pl ph il ih, if_pos g, xb_need (c_needDay dl dh), if_neg g2, rs3_2 g g2]
  · refine OUT.q h ?_
    rw [mp h hs.wr pl ph il ih, if_neg g, rs3_1 g]
theorem c_isOpen {k : Int} (h : CR sv G S m) (hs : SI t S) (h0 : 0 ≤ k) (h1 : k < mf S 29) : F_X6_isOpen (some (ag G k)) m = some (.ok (b2i (isOpenB S k)), m) := by
  have hg := h.mg k h0 h1
  have hk := hs.wr.ms h0 h1
  have hm := h.mt (ma S 34 k) hk.2.2.2.1.1 hk.2.2.2.1.2
  have hx := hs.wr.mt hk.2.2.2.1.1 hk.2.2.2.1.2
  have hv := hs.wr.vs hx.2.1.1 hx.2.1.2
  have hn := hs.wr.nn
  unfold F_X6_isOpen isOpenB
  simp only [xb_xp, xb_as]
  rw [yg1 hg, ym2 hm, yg0 hg, show decide (I (ma S 31 k) = (2 : Int32)) = decide (ma S 31 k = 2) by rw [gl2, d_eq (by omega) (by omega) (by omega) (by omega)]]
  rw [xb_ok (xif_and (b := decide (¬ ma S 42 k = 0)) (fun q => by
    have q := of_decide_eq_true q
    rw [yg10 hg (by omega), xp_ap, gl0, d_ne (by omega) (by omega) (by omega) (by omega)]))]
  rw [xb_ok (xif_and (b := !decide (¬ ma S 43 k = 0)) (fun q => by
    simp only [Bool.and_eq_true, decide_eq_true_eq] at q
    rw [yg11 hg q.1, xp_ap, gl0, d_ne (by omega) (by omega) (by omega) (by omega)]))]
  rw [xb_ok (xif_and (b := !decide (¬ ma S 19 (ma S 5 (ma S 34 k)) = 0)) (fun _ => by rw [yv16 hm.now, xp_ap, gl0, d_ne (by omega) (by omega) (by omega) (by omega)]))]
  rw [xb_ok (xif_and (b := hl (ml S 23 (ma S 5 (ma S 34 k))) (ma S 37 k)) (fun q => by
    simp only [Bool.and_eq_true, decide_eq_true_eq] at q
    have hq := hs.mq.2 k h0 h1 q.1.1.1
    rw [yg5 hg, ov_b hm.now, xb_ok (c_isDate hm.now (by omega) (by omega)), xp_ap, b2ne, show gD (ma S 37 k) = true from decide_eq_true (by omega), Bool.true_and]))]
  rw [xb_ok (xif_and (b := decide (standOf S (ma S 5 (ma S 34 k)) (ma S 37 k) ≤ ma S 36 k)) (fun q => by
    simp only [Bool.and_eq_true, decide_eq_true_eq] at q
    have hq := hs.mq.2 k h0 h1 q.1.1.1.1
    have hd := hs.wr.dl hx.2.1.1 hx.2.1.2 hq hk.2.2.2.2.2.2.1.2
    rw [yg5 hg, ov_b hm.now, xb_ok (c_standOf hm.now hq (by omega)), yg4 hg, ygv hg, xp_ap, d_le (by omega) (by omega) (by omega) (by omega)]; rfl))]
  rw [xz_ok]
theorem c_openProposals {i : Int} (h : CR sv G S m) (hs : SI t S) (hi : 0 ≤ i) (hi' : i < mf S 3) : F_X6_openProposals sv (some (am G i)) m = some (.ok (I (opens S i)), m) := by
  have hn := hs.wr.nn
  unfold F_X6_openProposals opens
  simp only [xb_xp, xb_as]
  refine Eq.trans (xb_ok (xl_run (fun j => (I (cntO S i j), I j)) (fun _ => m) (mf S 29).toNat 2000 (fun j hj => ?_) (fun j hj => ?_) ?_ (by omega))) rfl
  · rw [ys5 h, xp_ap, d_lt (by omega) (by omega) (by omega) (by omega), decide_eq_true (by omega)]
  · have hg := h.mg j (by omega) (by omega)
    have hk := hs.wr.ms (k := (j : Int)) (by omega) (by omega)
    have es : cntO S i (j + 1) = cntO S i j + (if (decide (ma S 34 j = i) && isOpenB S j) = true then 1 else 0) := rfl
    rw [es]
    generalize cntO S i j = n
    rw [ys3 h.cf, yg h (by omega) (by omega) (by omega), yg1 hg, am_dec h (by omega) (by omega) hi hi']
    rw [xb_ok (xif_and (b := isOpenB S j) (fun q => by rw [xb_ok (c_isOpen h hs (by omega) (by omega)), xp_ap, b2ne]))]
    rw [gl1]
    by_cases c : (decide (ma S 34 j = i) && isOpenB S j) = true
    · rw [if_pos c, if_pos c, xb_xp, xp_ap, I_add, I_add]; rfl
    · rw [if_neg c, if_neg c, xb_xp, xp_ap, I_add, Int.add_zero]; rfl
  · rw [ys5 h, xp_ap, d_lt (by omega) (by omega) (by omega) (by omega), decide_eq_false (by omega)]
theorem q_proposals {i : Int} (h : CR sv G S m) (hs : SI t S) (il : -2147483648 ≤ i) (ih : i < 2147483648) : OUT sv (F_X6_proposals sv (I i)) m (rs3 (gM S i) true true (I (opens S i))) S := by
  refine OUT.q h ?_
  unfold F_X6_proposals
  simp only [xb_xp, xb_as]
  rw [os_b h.cf, xb_need (c_meetingNumbered h hs.wr il ih)]
  by_cases g : gM S i = true
  · have q := gM_d g
    rw [if_pos g, rs3_4 g rfl rfl, os h.cf, c_openProposals h hs q.1 q.2]
  · rw [if_neg g, rs3_1 g]
theorem nth_first {c : Int → Bool} {place : Int} : ∀ n : Nat, 0 ≤ place → place < cnt c n → ∃ N : Nat, N < n ∧ c N = true ∧ cnt c N = place ∧ nth c place n = N ∧ ∀ j : Nat, j ≤ N → nth c place j = -1 := by
  intro n
  induction n with
  | zero => intro h0 h1; exact absurd h1 (by show ¬ place < 0; omega)
  | succ n ih =>
    intro h0 h1
    have e1 : cnt c (n + 1) = cnt c n + (if c n = true then 1 else 0) := rfl
    have e2 : nth c place (n + 1) = if (c n && decide (cnt c n = place)) = true then (n : Int) else nth c place n := rfl
    have lo : ∀ j : Nat, cnt c j ≤ place → nth c place j = -1 := by
      intro j
      induction j with
      | zero => intro _; rfl
      | succ j jh =>
        intro hj
        have f1 : cnt c (j + 1) = cnt c j + (if c j = true then 1 else 0) := rfl
        have f2 : nth c place (j + 1) = if (c j && decide (cnt c j = place)) = true then (j : Int) else nth c place j := rfl
        rw [f2]
        by_cases cj : c j = true
        · rw [if_pos cj] at f1
          rw [if_neg (by rw [decide_eq_false (by omega), Bool.and_false]; decide)]
          exact jh (by omega)
        · rw [if_neg cj] at f1
          rw [Bool.eq_false_iff.mpr cj, Bool.false_and, if_neg (by decide)]
          exact jh (by omega)
    by_cases q : place < cnt c n
    · obtain ⟨N, a1, a2, a3, a4, a5⟩ := ih h0 q
      refine ⟨N, by omega, a2, a3, ?_, a5⟩
      rw [e2, decide_eq_false (by omega), Bool.and_false, if_neg (by decide), a4]
    · have cn : c n = true := by
        cases hc : c n
        · rw [e1, hc, if_neg (by decide)] at h1; omega
        · rfl
      rw [e1, if_pos cn] at h1
      refine ⟨n, by omega, cn, by omega, ?_, fun j hj => lo j ?_⟩
      · rw [e2, cn, decide_eq_true (by omega)]; rfl
      · have mono : ∀ a : Nat, cnt c j ≤ cnt c (j + a) := by
          intro a
          induction a with
          | zero => exact Int.le_refl _
          | succ a ah =>
            have f1 : cnt c (j + (a + 1)) = cnt c (j + a) + (if c ((j + a : Nat) : Int) = true then 1 else 0) := rfl
            rw [f1]; split <;> omega
        have := mono (n - j)
        rw [show j + (n - j) = n by omega] at this
        omega
theorem q_proposalAt {i place : Int} (h : CR sv G S m) (hs : SI t S) (il : -2147483648 ≤ i) (ih : i < 2147483648) (placel : -2147483648 ≤ place) (placeh : place < 2147483648) : OUT sv (F_X6_proposalAt sv (I i) (I place)) m (rs3 (gM S i && decide (0 ≤ place ∧ place < opens S i)) true true (I (nth (opC S i) place (mf S 29).toNat))) S := by
  refine OUT.q h ?_
  have hn := hs.wr.nn
  unfold F_X6_proposalAt
  simp only [xb_xp, xb_as]
  rw [os_b h.cf, xb_need (c_meetingNumbered h hs.wr il ih)]
  by_cases g : gM S i = true
  · have q := gM_d g
    have hc := cntO_r S i (mf S 29).toNat
    rw [if_pos g, os_b h.cf, xb_ok (c_openProposals h hs q.1 q.2), g, Bool.true_and]
    have ho : 0 ≤ opens S i ∧ opens S i ≤ 150 := by unfold opens; omega
    rw [xb_need (c_needPlace placel placeh (by omega) (by omega))]
    by_cases g2 : decide (0 ≤ place ∧ place < opens S i) = true
    · rw [if_pos g2, rs3_4 g2 rfl rfl]
      have q2 := of_decide_eq_true g2
      obtain ⟨N, a1, a2, a3, a4, a5⟩ := nth_first (c := opC S i) (place := place) (mf S 29).toNat q2.1 (by rw [← opens_cnt]; exact q2.2)
      rw [a4]
      have cr := cnt_r (opC S i)
      refine Eq.trans (xb_ok (xl_run (fun j => (I (nth (opC S i) place j), I (cnt (opC S i) j), I j)) (fun _ => m) (N + 1) 2000 (fun j hj => ?_) (fun j hj => ?_) ?_ (by omega))) ?_
      · rw [ys5 h, d_lt (by omega) (by omega) (by omega) (by omega), xif_and (b := true) (fun _ => by rw [xp_ap, glm1, a5 j (by omega), decide_eq_true rfl]), decide_eq_true (by omega)]; rfl
      · have hg := h.mg j (by omega) (by omega)
        have hk := hs.wr.ms (k := (j : Int)) (by omega) (by omega)
        have crj := cr j
        have e1 : cnt (opC S i) (j + 1) = cnt (opC S i) j + (if opC S i j = true then 1 else 0) := rfl
        have e2 : nth (opC S i) place (j + 1) = if (opC S i j && decide (cnt (opC S i) j = place)) = true then (j : Int) else nth (opC S i) place j := rfl
        rw [e1, e2]
        generalize cnt (opC S i) j = n at crj ⊢
        generalize nth (opC S i) place j = w
        rw [ys3 h.cf, yg h (by omega) (by omega) (by omega), yg1 hg, am_dec h (by omega) (by omega) q.1 q.2]
        rw [xb_ok (xif_and (b := isOpenB S j) (fun _ => by rw [xb_ok (c_isOpen h hs (by omega) (by omega)), xp_ap, b2ne]))]
        rw [show (decide (ma S 34 j = i) && isOpenB S j) = opC S i j from rfl, gl1, d_eq (by omega) (by omega) (by omega) (by omega)]
        by_cases c : opC S i j = true
        · rw [if_pos c, if_pos c, c, Bool.true_and]
          by_cases c2 : n = place
          · rw [decide_eq_true c2, if_pos rfl, if_pos rfl, xb_as, xb_xp, xb_xp, xp_ap, I_add, I_add]; rfl
          · rw [decide_eq_false c2, if_neg (by decide), if_neg (by decide), xb_as, xb_xp, xb_xp, xp_ap, I_add, I_add]; rfl
        · rw [if_neg c, if_neg c, Bool.eq_false_iff.mpr c, Bool.false_and, if_neg (by decide), xb_xp, xp_ap, I_add, Int.add_zero]; rfl
      · have e2 : nth (opC S i) place (N + 1) = N := by
          show (if (opC S i N && decide (cnt (opC S i) N = place)) = true then (N : Int) else nth (opC S i) place N) = N
          rw [a2, decide_eq_true a3]; rfl
        rw [ys5 h, xif_and (b := false) (fun _ => by rw [xp_ap, glm1, e2, d_eq (by omega) (by omega) (by omega) (by omega), decide_eq_false (by omega)]), Bool.and_false]
      · show xp (I (nth (opC S i) place (N + 1))) m = _
        have e2 : nth (opC S i) place (N + 1) = N := by
          show (if (opC S i N && decide (cnt (opC S i) N = place)) = true then (N : Int) else nth (opC S i) place N) = N
          rw [a2, decide_eq_true a3]; rfl
        rw [e2, xp_ap]
    · rw [if_neg g2, rs3_1 g2]
  · rw [if_neg g, rs3_1 (by rw [Bool.eq_false_iff.mpr g, Bool.false_and]; decide)]
theorem dr_len {b : Nat} {x : Int64} (h : DR sv m b x) : xlen (some b) m = some (.ok (I (cnt (hl x) 60)), m) := by
  have := cnt_r (hl x) 60
  rw [x_len h.2.1 (by decide), show (((cnt (hl x) 60).toNat : Nat) : Int) = cnt (hl x) 60 by omega]
theorem dr_get {b : Nat} {x : Int64} {j : Int} (h : DR sv m b x) (h0 : 0 ≤ j) (h1 : j < cnt (hl x) 60) : xai 0 (some b) (I j) m = some (.ok (I (nth (hl x) j 60)), m) := by
  have := cnt_r (hl x) 60
  exact x_ai h.2.1 (by omega) h0 (by omega) (h.2.2 j h0 h1)
theorem q_dates {p i : Int} (h : CR sv G S m) (hs : SI t S) (pl : -2147483648 ≤ p) (ph : p < 2147483648) (il : -2147483648 ≤ i) (ih : i < 2147483648) : OUT sv (F_X6_dates sv (I p) (I i)) m (rs3 (gPM S p i) true true (I (cnt (hl (datOf S p i)) 60))) S := by
  refine OUT.q h ?_
  unfold F_X6_dates
  simp only [xb_xp, xb_as]
  rw [pm h hs.wr pl ph il ih]
  by_cases g : gPM S p i = true
  · have q := gPM_d g
    rw [if_pos g, rs3_4 g rfl rfl, om_b (h.mt i q.2.1 q.2.2), xb_ok (c_versionThere h hs.wr hs.lo q.1.1 q.1.2 q.2.1 q.2.2)]
    unfold datOf
    by_cases e : isHere S p i = true
    · have hv := here_ver hs.wr q.1.1 q.1.2 q.2.1 q.2.2 e
      obtain ⟨-, hvs⟩ := vO_v h q.1.1 q.1.2 q.2.1 q.2.2 (show verOf S p i ≠ -1 by omega)
      obtain ⟨b, b1, b2⟩ := hvs.dr
      rw [if_pos e, if_pos e, decide_eq_false (by simp), if_neg (by decide), xb_ok (x_gr rfl hvs.ty b1), dr_len b2]
    · rw [if_neg e, if_neg e, decide_eq_true rfl, if_pos rfl, xp_ap, gl0, show cnt (hl 0) 60 = 0 by decide +kernel]
  · rw [if_neg g, rs3_1 g]
theorem q_dateAt {p i place : Int} (h : CR sv G S m) (hs : SI t S) (pl : -2147483648 ≤ p) (ph : p < 2147483648) (il : -2147483648 ≤ i) (ih : i < 2147483648) (placel : -2147483648 ≤ place) (placeh : place < 2147483648) : OUT sv (F_X6_dateAt sv (I p) (I i) (I place)) m (rs3 (gPM S p i && decide (0 ≤ place ∧ place < cnt (hl (datOf S p i)) 60)) true true (I (nth (hl (datOf S p i)) place 60))) S := by
  refine OUT.q h ?_
  unfold F_X6_dateAt
  simp only [xb_xp, xb_as]
  rw [pm h hs.wr pl ph il ih]
  by_cases g : gPM S p i = true
  · have q := gPM_d g
    rw [if_pos g, g, Bool.true_and, om_b (h.mt i q.2.1 q.2.2), xb_ok (c_versionThere h hs.wr hs.lo q.1.1 q.1.2 q.2.1 q.2.2)]
    unfold datOf
    by_cases e : isHere S p i = true
    · have hv := here_ver hs.wr q.1.1 q.1.2 q.2.1 q.2.2 e
      obtain ⟨-, hvs⟩ := vO_v h q.1.1 q.1.2 q.2.1 q.2.2 (show verOf S p i ≠ -1 by omega)
      obtain ⟨b, b1, b2⟩ := hvs.dr
      have cr := cnt_r (hl (ml S 23 (verOf S p i))) 60
      rw [if_pos e, if_pos e]
      rw [xb_ok (xif_or (b := decide (place < 0)) (fun _ => by rw [xp_ap, gl0, d_lt (by omega) (by omega) (by omega) (by omega)]))]
      rw [xb_ok (xif_or (b := decide (cnt (hl (ml S 23 (verOf S p i))) 60 ≤ place)) (fun _ => by rw [xb_ok (x_gr rfl hvs.ty b1), xb_ok (dr_len b2), xp_ap, d_le (by omega) (by omega) (by omega) (by omega)]))]
      rw [show decide (some (vH G S p i) = none) = false from rfl, Bool.false_or]
      by_cases g2 : 0 ≤ place ∧ place < cnt (hl (ml S 23 (verOf S p i))) 60
      · rw [decide_eq_false (show ¬ place < 0 by omega), decide_eq_false (show ¬ cnt (hl (ml S 23 (verOf S p i))) 60 ≤ place by omega), if_neg (by decide), rs3_4 (decide_eq_true g2) rfl rfl, xb_ok (x_gr rfl hvs.ty b1), dr_get b2 g2.1 g2.2]
      · rw [rs3_1 (by rw [decide_eq_false g2]; decide), ← Bool.decide_or, decide_eq_true (by omega), if_pos rfl]; rfl
    · rw [if_neg e, if_neg e, show cnt (hl 0) 60 = 0 by decide +kernel, rs3_1 (by rw [decide_eq_false (by omega)]; decide)]; rfl
  · rw [if_neg g, rs3_1 (by rw [Bool.eq_false_iff.mpr g, Bool.false_and]; decide)]
end C7
