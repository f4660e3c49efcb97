/-! the contracts of the parts before, in the continuation style -/
theorem t_X5_leftOf {G : sk_G} {M : sk_M} {b : Nat} {p : Int32} {v : Int32} (hb : sk_sb b) {Q : Int32 → Prop} (h : w_X5_leftOf b p v M Q) : Ctr G mX5_leftOf 1 0 0 [.ref (G.2.2.1 b), .int p, .int v] M (rI fun r9 M9 => Q r9 ∧ M9 = M) noX := by
  obtain ⟨g0, g1, h⟩ := h
  obtain ⟨pn, hpn, cpn, rfl⟩ := vin_ex g0
  obtain ⟨vn, hvn, cvn, rfl⟩ := vin_ex g1
  try simp only [nI_clamp cpn, nI_clamp cvn] at h
  exact (c_leftOf (by decide) hb hpn hvn).monoI (fun r M9 => by rintro ⟨rfl, h9⟩; obtain rfl := h9.symm; exact ⟨h, rfl⟩)
theorem t_X5_soundOf {G : sk_G} {M : sk_M} {b : Nat} {t : Int32} {c : Int32} (hb : sk_sb b) {Q : Int32 → Prop} (h : w_X5_soundOf b t c M Q) : Ctr G mX5_soundOf 0 0 0 [.ref (G.2.2.1 b), .int t, .int c] M (rI fun r9 M9 => Q r9 ∧ M9 = M) noX := by
  obtain ⟨g0, g1, h⟩ := h
  obtain ⟨tn, htn, ctn, rfl⟩ := vin_ex g0
  obtain ⟨cn, hcn, ccn, rfl⟩ := vin_ex g1
  try simp only [nI_clamp ctn, nI_clamp ccn] at h
  exact (c_soundOf hb htn hcn).monoI (fun r M9 => by rintro ⟨rfl, h9⟩; obtain rfl := h9.symm; exact ⟨h, rfl⟩)
theorem t_X5_isGuarded {G : sk_G} {M : sk_M} {b : Nat} {v : Int32} (hb : sk_sb b) {Q : Int32 → Prop} (h : w_X5_isGuarded b v M Q) : Ctr G mX5_isGuarded 0 0 0 [.ref (G.2.2.1 b), .int v] M (rI fun r9 M9 => Q r9 ∧ M9 = M) noX := by
  obtain ⟨g0, g1, h⟩ := h
  obtain ⟨vn, hvn, cvn, rfl⟩ := vin_ex g0
  obtain ⟨dy, hdy, cdy, edy⟩ := vin_ex g1
  try simp only [nI_clamp cvn, edy, nI_clamp cdy] at h
  exact (c_isGuarded hb hvn edy hdy).monoI (fun r M9 => by rintro ⟨rfl, h9⟩; obtain rfl := h9.symm; exact ⟨h, rfl⟩)
theorem t_X5_shareOf {G : sk_G} {M : sk_M} {b : Nat} {p : Int32} {v : Int32} (hb : sk_sb b) {Q : Int32 → Prop} (h : w_X5_shareOf b p v M Q) : Ctr G mX5_shareOf 2 0 0 [.ref (G.2.2.1 b), .int p, .int v] M (rI fun r9 M9 => Q r9 ∧ M9 = M) noX := by
  obtain ⟨g0, g1, h⟩ := h
  obtain ⟨pn, hpn, cpn, rfl⟩ := vin_ex g0
  obtain ⟨vn, hvn, cvn, rfl⟩ := vin_ex g1
  try simp only [nI_clamp cpn, nI_clamp cvn] at h
  exact (c_shareOf (by decide) hb hpn hvn).monoI (fun r M9 => by rintro ⟨rfl, h9⟩; obtain rfl := h9.symm; exact ⟨h, rfl⟩)
theorem t_X5_isOpenContract {G : sk_G} {M : sk_M} {b : Nat} {c : Int32} (hb : sk_sb b) {Q : Int32 → Prop} (h : w_X5_isOpenContract b c M Q) : Ctr G mX5_isOpenContract 0 0 0 [.ref (G.2.2.1 b), .int c] M (rI fun r9 M9 => Q r9 ∧ M9 = M) noX := by
  obtain ⟨g0, h⟩ := h
  obtain ⟨cn, hcn, ccn, rfl⟩ := vin_ex g0
  try simp only [nI_clamp ccn] at h
  exact (c_isOpen hb hcn).monoI (fun r M9 => by rintro ⟨rfl, h9⟩; obtain rfl := h9.symm; exact ⟨h, rfl⟩)
theorem t_X5_rowCell {G : sk_G} {M : sk_M} {b : Nat} {a : Int32} {k : Int32} (hb : sk_sb b) {Q : Int32 → Prop} (h : w_X5_rowCell b a k M Q) : Ctr G mX5_rowCell 0 0 0 [.ref (G.2.2.1 b), .int a, .int k] M (rI fun r9 M9 => Q r9 ∧ M9 = M) noX := by
  obtain ⟨g0, g1, g2, h⟩ := h
  obtain ⟨an, han, can, rfl⟩ := vin_ex g0
  obtain ⟨kn, hkn, ckn, rfl⟩ := vin_ex g1
  obtain ⟨nr, hnr, cnr, enr⟩ := vin_ex g2
  try simp only [nI_clamp can, nI_clamp ckn, enr, nI_clamp cnr] at h
  exact (c_rowCell hb han hkn enr hnr).monoI (fun r M9 => by rintro ⟨rfl, h9⟩; obtain rfl := h9.symm; exact ⟨h, rfl⟩)
theorem t_X5_wheelRange {G : sk_G} {M : sk_M} {b : Nat} {w : Int32} {t : Int32} (hb : sk_sb b) {Q : Int32 → Prop} (h : w_X5_wheelRange b w t M Q) : Ctr G mX5_wheelRange 1 0 0 [.ref (G.2.2.1 b), .int w, .int t] M (rI fun r9 M9 => Q r9 ∧ M9 = M) noX := by
  obtain ⟨g0, g1, h⟩ := h
  obtain ⟨wn, hwn, cwn, rfl⟩ := vin_ex g0
  obtain ⟨tn, htn, ctn, rfl⟩ := vin_ex g1
  try simp only [nI_clamp cwn, nI_clamp ctn] at h
  exact (c_wheelRange (by decide) hb hwn htn).monoI (fun r M9 => by rintro ⟨rfl, h9⟩; obtain rfl := h9.symm; exact ⟨h, rfl⟩)
theorem t_X5_rangeOf {G : sk_G} {M : sk_M} {b : Nat} {t : Int32} (hb : sk_sb b) {Q : Int32 → Prop} (h : w_X5_rangeOf b t M Q) : Ctr G mX5_rangeOf 2 0 0 [.ref (G.2.2.1 b), .int t] M (rI fun r9 M9 => Q r9 ∧ M9 = M) noX := by
  obtain ⟨g0, h⟩ := h
  obtain ⟨tn, htn, ctn, rfl⟩ := vin_ex g0
  try simp only [nI_clamp ctn] at h
  exact (c_rangeOf (by decide) hb htn).monoI (fun r M9 => by rintro ⟨rfl, h9⟩; obtain rfl := h9.symm; exact ⟨h, rfl⟩)
theorem t_X5_leftOfAll {G : sk_G} {M : sk_M} {b : Nat} {set : Int32} {v : Int32} (hb : sk_sb b) {Q : Int32 → Prop} (h : w_X5_leftOfAll b set v M Q) : Ctr G mX5_leftOfAll 1 0 0 [.ref (G.2.2.1 b), .int set, .int v] M (rI fun r9 M9 => Q r9 ∧ M9 = M) noX := by
  obtain ⟨g0, g1, h⟩ := h
  obtain ⟨vn, hvn, cvn, rfl⟩ := vin_ex g0
  obtain ⟨np, hnp, cnp, enp⟩ := vin_ex g1
  try simp only [nI_clamp cvn, enp, nI_clamp cnp] at h
  exact (c_leftOfAll (by decide) hb hvn enp (by omega)).monoI (fun r M9 => by rintro ⟨rfl, h9⟩; obtain rfl := h9.symm; exact ⟨h, rfl⟩)
theorem t_X5_knowNothing {G : sk_G} {M : sk_M} {b : Nat} {p : Int32} {v : Int32} (hb : sk_sb b) {Q : sk_M → Prop} (h : w_X5_knowNothing b p v M Q) : Ctr G mX5_knowNothing 1 0 0 [.ref (G.2.2.1 b), .int p, .int v] M (rV Q) noX := by
  obtain ⟨g0, g1, h⟩ := h
  obtain ⟨pn, hpn, cpn, rfl⟩ := vin_ex g0
  obtain ⟨vn, hvn, cvn, rfl⟩ := vin_ex g1
  try simp only [nI_clamp cpn, nI_clamp cvn] at h
  exact (c_knowNothing (by decide) hb hpn hvn).monoV (fun M9 => by rintro rfl; exact h)
theorem t_X5_learnFrom {G : sk_G} {M : sk_M} {b : Nat} {t : Int32} {f : Int32} {v : Int32} (hb : sk_sb b) {Q : sk_M → Prop} (h : w_X5_learnFrom b t f v M Q) : Ctr G mX5_learnFrom 1 0 0 [.ref (G.2.2.1 b), .int t, .int f, .int v] M (rV Q) noX := by
  obtain ⟨g0, g1, g2, h⟩ := h
  obtain ⟨tn, htn, ctn, rfl⟩ := vin_ex g0
  obtain ⟨fn, hfn, cfn, rfl⟩ := vin_ex g1
  obtain ⟨vn, hvn, cvn, rfl⟩ := vin_ex g2
  try simp only [nI_clamp ctn, nI_clamp cfn, nI_clamp cvn] at h
  exact (c_learnFrom (by decide) hb htn hfn hvn).monoV (fun M9 => by rintro rfl; exact h)
theorem t_X5_tellAnew {G : sk_G} {M : sk_M} {b : Nat} {v : Int32} {c : Int32} (hb : sk_sb b) {Q : sk_M → Prop} (h : w_X5_tellAnew b v c M Q) : Ctr G mX5_tellAnew 2 0 0 [.ref (G.2.2.1 b), .int v, .int c] M (rV Q) noX := by
  obtain ⟨g0, g1, h⟩ := h
  obtain ⟨vn, hvn, cvn, rfl⟩ := vin_ex g0
  obtain ⟨np, hnp, cnp, enp⟩ := vin_ex g1
  try simp only [nI_clamp cvn, enp, nI_clamp cnp] at h
  exact (c_tellAnew (by decide) hb hvn enp (by omega)).monoV (fun M9 => by rintro rfl; exact h)
theorem t_X5_guardedToday {G : sk_G} {M : sk_M} {b : Nat}  (hb : sk_sb b) {Q : Int32 → Prop} (h : w_X5_guardedToday b M Q) : Ctr G mX5_guardedToday 1 0 0 [.ref (G.2.2.1 b)] M (rI fun r9 M9 => Q r9 ∧ M9 = M) noX := by
  obtain ⟨g0, g1, h⟩ := h
  obtain ⟨nv, hnv, cnv, env⟩ := vin_ex g0
  obtain ⟨dy, hdy, cdy, edy⟩ := vin_ex g1
  try simp only [env, nI_clamp cnv, edy, nI_clamp cdy] at h
  exact (c_guardedToday (by decide) hb env (by omega) edy hdy).monoI (fun r M9 => by rintro ⟨rfl, h9⟩; obtain rfl := h9.symm; exact ⟨h, rfl⟩)
theorem t_X5_worthOfAll {G : sk_G} {M : sk_M} {b : Nat}  (hb : sk_sb b) {Q : Int32 → Prop} (h : w_X5_worthOfAll b M Q) : Ctr G mX5_worthOfAll 0 0 0 [.ref (G.2.2.1 b)] M (rI fun r9 M9 => Q r9 ∧ M9 = M) noX := by
  obtain ⟨g0, h⟩ := h
  obtain ⟨nv, hnv, cnv, env⟩ := vin_ex g0
  try simp only [env, nI_clamp cnv] at h
  exact (c_worthOfAll hb env (by omega)).monoI (fun r M9 => by rintro ⟨rfl, h9⟩; obtain rfl := h9.symm; exact ⟨h, rfl⟩)
theorem t_X5_quarrelsOf {G : sk_G} {M : sk_M} {b : Nat} {c : Int32} (hb : sk_sb b) {Q : Int32 → Prop} (h : w_X5_quarrelsOf b c M Q) : Ctr G mX5_quarrelsOf 1 0 0 [.ref (G.2.2.1 b), .int c] M (rI fun r9 M9 => Q r9 ∧ M9 = M) noX := by
  obtain ⟨g0, g1, h⟩ := h
  obtain ⟨cn, hcn, ccn, rfl⟩ := vin_ex g0
  obtain ⟨nc, hnc, cnc, enc⟩ := vin_ex g1
  try simp only [nI_clamp ccn, enc, nI_clamp cnc] at h
  exact (c_quarrelsOf (by decide) hb hcn enc (by omega)).monoI (fun r M9 => by rintro ⟨rfl, h9⟩; obtain rfl := h9.symm; exact ⟨h, rfl⟩)
theorem t_X5_isBroken {G : sk_G} {M : sk_M} {b : Nat} {c : Int32} (hb : sk_sb b) {Q : Int32 → Prop} (h : w_X5_isBroken b c M Q) : Ctr G mX5_isBroken 1 0 0 [.ref (G.2.2.1 b), .int c] M (rI fun r9 M9 => Q r9 ∧ M9 = M) noX := by
  obtain ⟨g0, g1, g2, h⟩ := h
  obtain ⟨cn, hcn, ccn, rfl⟩ := vin_ex g0
  obtain ⟨nr, hnr, cnr, enr⟩ := vin_ex g1
  obtain ⟨rw9, hrw9, crw9, erw9⟩ := vin_ex g2
  try simp only [nI_clamp ccn, enr, nI_clamp cnr, erw9, nI_clamp crw9] at h
  exact (c_isBroken (by decide) hb hcn enr hnr erw9 (by omega)).monoI (fun r M9 => by rintro ⟨rfl, h9⟩; obtain rfl := h9.symm; exact ⟨h, rfl⟩)
theorem t_X5_write {G : sk_G} {M : sk_M} {b : Nat} {p : Int32} {v : Int32} {c : Int32} {x : Int32} (hb : sk_sb b) {Q : sk_M → Prop} (h : w_X5_write b p v c x M Q) : Ctr G mX5_write 1 0 0 [.ref (G.2.2.1 b), .int p, .int v, .int c, .int x] M (rV Q) noX := by
  obtain ⟨g0, g1, g2, g3, h⟩ := h
  obtain ⟨pn, hpn, cpn, rfl⟩ := vin_ex g0
  obtain ⟨vn, hvn, cvn, rfl⟩ := vin_ex g1
  obtain ⟨nr, hnr, cnr, enr⟩ := vin_ex g2
  obtain ⟨rw9, hrw9, crw9, erw9⟩ := vin_ex g3
  try simp only [nI_clamp cpn, nI_clamp cvn, enr, nI_clamp cnr, erw9, nI_clamp crw9] at h
  exact (c_write (by decide) hb hvn enr hnr erw9 (by omega)).monoV (fun M9 => by rintro rfl; exact h)
theorem t_X5_know {G : sk_G} {M : sk_M} {b : Nat} {p : Int32} {v : Int32} (hb : sk_sb b) {Q : sk_M → Prop} (h : w_X5_know b p v M Q) : Ctr G mX5_know 1 0 0 [.ref (G.2.2.1 b), .int p, .int v, .ref (G.2.2.1 130)] M (rV Q) noX := by
  obtain ⟨g0, g1, g2, h⟩ := h
  obtain ⟨pn, hpn, cpn, rfl⟩ := vin_ex g0
  obtain ⟨vn, hvn, cvn, rfl⟩ := vin_ex g1
  obtain ⟨sz, hsz, csz, esz⟩ := vin_ex g2
  try simp only [nI_clamp cpn, nI_clamp cvn, esz, nI_clamp csz] at h
  obtain ⟨h0, h⟩ := h
  exact (c_know (f := fun i => (M.1 131 i).toNatClampNeg) (by decide) hb hpn hvn esz (by omega) (fun i hi => by obtain ⟨j, hj, cj, ej⟩ := vin_ex (h0 i hi); exact ⟨by rw [ej, nI_clamp cj], by rw [ej, nI_clamp cj]; exact hj⟩)).monoV (fun M9 => by rintro rfl; exact h)
theorem t_X5_obey {G : sk_G} {M : sk_M} {b : Nat} {c1 : Nat} {ln : Int32} (hb : sk_sb b) (hc1 : sk_kd c1 = 10 ∧ sk_ln c1 = 108 ∧ c1 < 159) {Q : sk_M → Prop} (h : w_X5_obey b c1 ln M Q) : Ctr G mX5_obey 2 0 0 [.ref (G.2.2.1 b), .ref (G.2.2.1 c1), .int ln] M (rV Q) noX := by
  obtain ⟨g0, g1, h⟩ := h
  obtain ⟨np, hnp, cnp, enp⟩ := vin_ex g0
  obtain ⟨nv, hnv, cnv, env⟩ := vin_ex g1
  try simp only [enp, nI_clamp cnp, env, nI_clamp cnv] at h
  obtain ⟨rfl, h⟩ := h
  exact (c_obey (by decide) hb enp (by omega) env (by omega)).monoV (fun M9 => by rintro rfl; exact h)
theorem t_X5_copyFrom {G : sk_G} {M : sk_M} {b : Nat} {b1 : Nat}  (hb : sk_sb b) (hb1 : sk_sb b1) {Q : sk_M → Prop} (h : w_X5_copyFrom b b1 M Q) : Ctr G mX5_copyFrom 1 0 0 [.ref (G.2.2.1 b), .ref (G.2.2.1 b1)] M (rV Q) noX := by
  unfold w_X5_copyFrom at h
  exact (c_copyFrom (by decide) hb hb1).monoV (fun M9 => by rintro rfl; exact h)
theorem t_X2_work {G : sk_G} {M : sk_M} {b1 : Nat} {s0 : Int32} {n : Int32} (hb1 : sk_sb b1) {Q : sk_M → Prop} (h : w_X2_work b1 s0 n M Q) : Ctr G mX2_work 1 0 0 [.ref (G.2.2.1 138), .ref (G.2.2.1 b1), .int s0, .int n] M (rV Q) noX := by
  obtain ⟨g0, g1, h⟩ := h
  obtain ⟨nn, hnn, cnn, rfl⟩ := vin_ex g0
  obtain ⟨nv, hnv, cnv, env⟩ := vin_ex g1
  try simp only [nI_clamp cnn, env, nI_clamp cnv] at h
  exact (c_work (by decide) hb1 env (by omega) (by omega)).monoV (fun M9 h9 => h M9 h9)
theorem t_X2_hasTold {G : sk_G} {M : sk_M}  {v : Int32}  {Q : Int32 → Prop} (h : w_X2_hasTold v M Q) : Ctr G mX2_hasTold 0 0 0 [.ref (G.2.2.1 138), .int v] M (rI fun r9 M9 => Q r9 ∧ M9 = M) noX := by
  obtain ⟨g0, h⟩ := h
  obtain ⟨vn, hvn, cvn, rfl⟩ := vin_ex g0
  try simp only [nI_clamp cvn] at h
  exact (c_hasTold).monoI (fun r M9 => by rintro ⟨rfl, h9⟩; obtain rfl := h9.symm; exact ⟨h, rfl⟩)
theorem t_X2_changedFrom {G : sk_G} {M : sk_M} {b1 : Nat}  (hb1 : sk_sb b1) {Q : Int32 → Prop} (h : w_X2_changedFrom b1 M Q) : Ctr G mX2_changedFrom 0 0 0 [.ref (G.2.2.1 138), .ref (G.2.2.1 b1)] M (rI fun r9 M9 => Q r9 ∧ M9 = M) noX := by
  obtain ⟨g0, h⟩ := h
  obtain ⟨nv, hnv, cnv, env⟩ := vin_ex g0
  try simp only [env, nI_clamp cnv] at h
  exact (c_changedFrom hb1 env (by omega)).monoI (fun r M9 => by rintro ⟨rfl, h9⟩; obtain rfl := h9.symm; exact ⟨h, rfl⟩)
theorem t_X3_clear {G : sk_G} {M : sk_M}    {Q : sk_M → Prop} (h : w_X3_clear  M Q) : Ctr G mX3_clear 0 0 0 [.ref (G.2.2.1 123)] M (rV Q) noX := by
  unfold w_X3_clear at h
  exact (c_clear).monoV (fun M9 => by rintro rfl; exact h)
theorem t_X3_keep {G : sk_G} {M : sk_M} {b1 : Nat}  (hb1 : sk_sb b1) {Q : sk_M → Prop} (h : w_X3_keep b1 M Q) : Ctr G mX3_keep 2 0 0 [.ref (G.2.2.1 123), .ref (G.2.2.1 b1)] M (rV Q) noX := by
  obtain ⟨g0, g1, h⟩ := h
  obtain ⟨ns, hns, cns, ens⟩ := vin_ex g0
  obtain ⟨sz, hsz, csz, esz⟩ := vin_ex g1
  try simp only [ens, nI_clamp cns, esz, nI_clamp csz] at h
  exact (c_keep (by decide) hb1 ens hns esz (by omega)).monoV (fun M9 => by rintro rfl; exact h)
theorem t_X3_giveBack {G : sk_G} {M : sk_M} {b1 : Nat}  (hb1 : sk_sb b1) {Q : Int32 → sk_M → Prop} (h : w_X3_giveBack b1 M Q) : Ctr G mX3_giveBack 2 0 0 [.ref (G.2.2.1 123), .ref (G.2.2.1 b1)] M (rI Q) noX := by
  obtain ⟨g0, g1, h⟩ := h
  obtain ⟨ns, hns, cns, ens⟩ := vin_ex g0
  obtain ⟨sz, hsz, csz, esz⟩ := vin_ex g1
  try simp only [ens, nI_clamp cns, esz, nI_clamp csz] at h
  by_cases q0 : sz = 0
  · subst q0
    rw [if_pos rfl] at h
    exact (c_giveBack0 esz).monoI (fun r M9 => by rintro ⟨rfl, h9⟩; obtain rfl := h9.symm; exact h)
  · rw [if_neg q0] at h
    exact (c_giveBack (by decide) hb1 ens hns esz (by omega) (by omega)).monoI (fun r M9 => by rintro ⟨rfl, rfl⟩; exact h)
theorem t_X4_face {G : sk_G} {M : sk_M}  {t : Int32}  {Q : sk_M → Prop} (h : w_X4_face t M Q) : Ctr G mX4_face 0 0 0 [.ref (G.2.2.1 130), .int t] M (rV Q) noX := by
  obtain ⟨g0, h⟩ := h
  obtain ⟨tn, htn, ctn, rfl⟩ := vin_ex g0
  try simp only [nI_clamp ctn] at h
  exact (c_face htn).monoV (fun M9 h9 => h M9 h9)
theorem t_X4_slotOf {G : sk_G} {M : sk_M}  {c : Int32}  {Q : Int32 → Prop} (h : w_X4_slotOf c M Q) : Ctr G mX4_slotOf 0 0 0 [.ref (G.2.2.1 130), .int c] M (rI fun r9 M9 => Q r9 ∧ M9 = M) noX := by
  obtain ⟨g0, h⟩ := h
  obtain ⟨cn, hcn, ccn, rfl⟩ := vin_ex g0
  try simp only [nI_clamp ccn] at h
  obtain ⟨t9, h0, h⟩ := h
  exact (c_slotOf hcn h0).monoI (fun r M9 => by rintro ⟨rfl, h9⟩; obtain rfl := h9.symm; exact ⟨h, rfl⟩)
theorem t_X4_startTally {G : sk_G} {M : sk_M}    {Q : sk_M → Prop} (h : w_X4_startTally  M Q) : Ctr G mX4_startTally 1 0 0 [.ref (G.2.2.1 130)] M (rV Q) noX := by
  unfold w_X4_startTally at h
  obtain ⟨h0, h⟩ := h
  exact (c_startTally (by decide) h0).monoV (fun M9 h9 => h M9 h9)
theorem t_X4_countOne {G : sk_G} {M : sk_M}  {s : Int32}  {Q : Int32 → sk_M → Prop} (h : w_X4_countOne s M Q) : Ctr G mX4_countOne 1 0 0 [.ref (G.2.2.1 130), .int s] M (rI Q) noX := by
  obtain ⟨g0, h⟩ := h
  obtain ⟨sn, hsn, csn, rfl⟩ := vin_ex g0
  try simp only [nI_clamp csn] at h
  obtain ⟨fl, n, h0, h1, h⟩ := h
  exact (c_countOne (by decide) hsn h0 h1).monoI (fun r M9 => by rintro ⟨rfl, h9⟩; exact h M9 h9)
theorem t_X4_load {G : sk_G} {M : sk_M}  {p : Int32} {v : Int32}  {Q : sk_M → Prop} (h : w_X4_load p v M Q) : Ctr G mX4_load 2 0 0 [.ref (G.2.2.1 130), .int p, .int v] M (rV Q) noX := by
  obtain ⟨g0, g1, h⟩ := h
  obtain ⟨pn, hpn, cpn, rfl⟩ := vin_ex g0
  obtain ⟨vn, hvn, cvn, rfl⟩ := vin_ex g1
  try simp only [nI_clamp cpn, nI_clamp cvn] at h
  exact (c_load (by decide) hpn hvn).monoV (fun M9 h9 => h M9 h9)
theorem t_X4_loadAllBut {G : sk_G} {M : sk_M}  {t : Int32}  {Q : sk_M → Prop} (h : w_X4_loadAllBut t M Q) : Ctr G mX4_loadAllBut 0 0 0 [.ref (G.2.2.1 130), .int t] M (rV Q) noX := by
  obtain ⟨g0, h⟩ := h
  obtain ⟨tn, htn, ctn, rfl⟩ := vin_ex g0
  try simp only [nI_clamp ctn] at h
  exact (c_loadAllBut htn).monoV (fun M9 h9 => h M9 h9)
theorem t_X4_hear {G : sk_G} {M : sk_M}  {t : Int32} {u : Int32}  {Q : sk_M → Prop} (h : w_X4_hear t u M Q) : Ctr G mX4_hear 2 0 0 [.ref (G.2.2.1 130), .int t, .int u] M (rV Q) noX := by
  obtain ⟨g0, g1, h⟩ := h
  obtain ⟨tn, htn, ctn, rfl⟩ := vin_ex g0
  obtain ⟨un, hun, cun, rfl⟩ := vin_ex g1
  try simp only [nI_clamp ctn, nI_clamp cun] at h
  obtain ⟨l, h0, h⟩ := h
  exact (c_hear (by decide) htn hun h0).monoV (fun M9 h9 => h M9 h9)
theorem t_X4_sidesOf {G : sk_G} {M : sk_M}  {w : Int32}  {Q : Int32 → Prop} (h : w_X4_sidesOf w M Q) : Ctr G mX4_sidesOf 0 0 0 [.ref (G.2.2.1 130), .int w] M (rI fun r9 M9 => Q r9 ∧ M9 = M) noX := by
  obtain ⟨g0, h⟩ := h
  obtain ⟨wn, hwn, cwn, rfl⟩ := vin_ex g0
  try simp only [nI_clamp cwn] at h
  obtain ⟨l, h0, h⟩ := h
  exact (c_sidesOf hwn h0).monoI (fun r M9 => by rintro ⟨rfl, h9⟩; obtain rfl := h9.symm; exact ⟨h, rfl⟩)
theorem t_X4_partsBy {G : sk_G} {M : sk_M}  {t : Int32}  {Q : Int32 → sk_M → Prop} (h : w_X4_partsBy t M Q) : Ctr G mX4_partsBy 2 0 0 [.ref (G.2.2.1 130), .int t] M (rI Q) noX := by
  obtain ⟨g0, h⟩ := h
  obtain ⟨tn, htn, ctn, rfl⟩ := vin_ex g0
  try simp only [nI_clamp ctn] at h
  obtain ⟨l, h0, h1, h2, h⟩ := h
  exact (c_partsBy (by decide) htn h0 h1 h2).monoI (fun r M9 => by rintro ⟨rfl, h9⟩; exact h M9 h9)
theorem t_X4_greatestPart {G : sk_G} {M : sk_M}  {t : Int32} {lim : Int32}  {Q : Int32 → sk_M → Prop} (h : w_X4_greatestPart t lim M Q) : Ctr G mX4_greatestPart 2 0 0 [.ref (G.2.2.1 130), .int t, .int lim] M (rI Q) noX := by
  obtain ⟨g0, g1, h⟩ := h
  obtain ⟨tn, htn, ctn, rfl⟩ := vin_ex g0
  obtain ⟨limn, hlimn, climn, rfl⟩ := vin_ex g1
  try simp only [nI_clamp ctn, nI_clamp climn] at h
  obtain ⟨l, h0, h1, h2, h⟩ := h
  exact (c_greatest (by decide) htn hlimn h0 h1 h2).monoI (fun r M9 h9 => h r M9 h9)
theorem t_X4_compare {G : sk_G} {M : sk_M}  {t : Int32}  {Q : sk_M → Prop} (h : w_X4_compare t M Q) : Ctr G mX4_compare 1 0 0 [.ref (G.2.2.1 130), .int t] M (rV Q) noX := by
  obtain ⟨g0, h⟩ := h
  obtain ⟨tn, htn, ctn, rfl⟩ := vin_ex g0
  try simp only [nI_clamp ctn] at h
  obtain ⟨l, ⟨h0, h1⟩, h⟩ := h
  exact (c_compare (by decide) htn h0 h1).monoV (fun M9 h9 => h M9 h9)
theorem t_X4_neededBehind {G : sk_G} {M : sk_M}  {t : Int32} {s : Int32}  {Q : Int32 → Prop} (h : w_X4_neededBehind t s M Q) : Ctr G mX4_neededBehind 1 0 0 [.ref (G.2.2.1 130), .int t, .int s] M (rI fun r9 M9 => Q r9 ∧ M9 = M) noX := by
  obtain ⟨g0, g1, g2, h⟩ := h
  obtain ⟨tn, htn, ctn, rfl⟩ := vin_ex g0
  obtain ⟨sn, hsn, csn, rfl⟩ := vin_ex g1
  obtain ⟨len, hlen, clen, elen⟩ := vin_ex g2
  try simp only [nI_clamp ctn, nI_clamp csn, elen, nI_clamp clen] at h
  obtain ⟨al, nd, ⟨h0, h1⟩, h⟩ := h
  exact (c_neededBehind (by decide) htn hsn elen (by omega) h0 h1).monoI (fun r M9 => by rintro ⟨rfl, h9⟩; obtain rfl := h9.symm; exact ⟨h, rfl⟩)
theorem t_X6_step {G : sk_G} {M : sk_M}    {Q : sk_M → Prop} (h : w_X6_step  M Q) : Ctr G mX6_step 0 0 0 [.ref (G.2.2.1 121)] M (rV Q) noX := by
  unfold w_X6_step at h
  obtain ⟨y, n, i, h0, h⟩ := h
  exact (c_step h0.1 h0.2.1 h0.2.2).monoV (fun M9 h9 => h M9 h9)
theorem t_X6_isSign {G : sk_G} {M : sk_M}  {c : Int32}  {Q : Int32 → Prop} (h : w_X6_isSign c M Q) : Ctr G mX6_isSign 0 0 0 [.ref (G.2.2.1 121), .int c] M (rI fun r9 M9 => Q r9 ∧ M9 = M) noX := by
  obtain ⟨g0, h⟩ := h
  obtain ⟨cn, hcn, ccn, rfl⟩ := vin_ex g0
  try simp only [nI_clamp ccn] at h
  obtain ⟨y, n, i, h0, h⟩ := h
  exact (c_isSign h0 hcn).monoI (fun r M9 => by rintro ⟨rfl, h9⟩; obtain rfl := h9.symm; exact ⟨h, rfl⟩)
theorem t_X6_is {G : sk_G} {M : sk_M} {j : Nat}  (hj : j < sk_SN) {Q : Int32 → Prop} (h : w_X6_is j M Q) : Ctr G mX6_is 4 0 0 [.ref (G.2.2.1 121), .ref (G.2.2.2.2.1 j)] M (rI fun r9 M9 => Q r9 ∧ M9 = M) noX := by
  unfold w_X6_is at h
  obtain ⟨y, n, i, h0, h⟩ := h
  exact (c_is (by decide) hj h0).monoI (fun r M9 => by rintro ⟨rfl, h9⟩; obtain rfl := h9.symm; exact ⟨h, rfl⟩)
theorem t_X6_pass {G : sk_G} {M : sk_M} {j : Nat}  (hj : j < sk_SN) {Q : Int32 → sk_M → Prop} (h : w_X6_pass j M Q) : Ctr G mX6_pass 5 0 0 [.ref (G.2.2.1 121), .ref (G.2.2.2.2.1 j)] M (rI Q) noX := by
  unfold w_X6_pass at h
  obtain ⟨y, n, i, h0, h1, h2⟩ := h
  exact (c_pass (by decide) hj h0).monoI (fun r M9 => by
    rintro ⟨rfl, k1, k2⟩
    by_cases q : isWd y n i j
    · rw [bI_t q]; exact h1 q M9 (k1 q)
    · rw [bI_f q, k2 q]; exact h2 q)
theorem t_X6_passSign {G : sk_G} {M : sk_M}  {c : Int32}  {Q : Int32 → sk_M → Prop} (h : w_X6_passSign c M Q) : Ctr G mX6_passSign 1 0 0 [.ref (G.2.2.1 121), .int c] M (rI Q) noX := by
  obtain ⟨g0, h⟩ := h
  obtain ⟨cn, hcn, ccn, rfl⟩ := vin_ex g0
  try simp only [nI_clamp ccn] at h
  obtain ⟨y, n, i, h0, h1, h2⟩ := h
  exact (c_passSign (by decide) hcn h0).monoI (fun r M9 => by
    rintro ⟨rfl, k1, k2⟩
    by_cases q : (tkK y n i = 3 ∧ y (tkA y n i) = cn)
    · rw [bI_t q]; exact h1 q M9 (k1 q)
    · rw [bI_f q, k2 q]; exact h2 q)
theorem t_X6_rewind {G : sk_G} {M : sk_M}    {Q : sk_M → Prop} (h : w_X6_rewind  M Q) : Ctr G mX6_rewind 1 0 0 [.ref (G.2.2.1 121)] M (rV Q) noX := by
  unfold w_X6_rewind at h
  obtain ⟨y, n, h0, h⟩ := h
  exact (c_rewind (by decide) h0).monoV (fun M9 h9 => h M9 h9)
theorem t_X6_numberUpTo {G : sk_G} {M : sk_M}  {mo : Int32}  {Q : Int32 → sk_M → Prop} (h : w_X6_numberUpTo mo M Q) : Ctr G mX6_numberUpTo 1 0 0 [.ref (G.2.2.1 121), .int mo] M (rI Q) noX := by
  unfold w_X6_numberUpTo at h
  obtain ⟨y, n, i, h0, h1, h2⟩ := h
  exact (c_number (by decide) h0).monoI (fun r M9 => by
    rintro ⟨k1, k2⟩
    by_cases q : (isNu y n i ∧ nI (nuV y n i) ≤ mo)
    · obtain ⟨rfl, q2⟩ := k1 q; exact h1 q M9 q2
    · obtain ⟨rfl, rfl⟩ := k2 q; exact h2 q)
theorem t_X6_figures {G : sk_G} {M : sk_M}    {Q : Int32 → sk_M → Prop} (h : w_X6_figures  M Q) : Ctr G mX6_figures 1 0 0 [.ref (G.2.2.1 121)] M (rI Q) noX := by
  unfold w_X6_figures at h
  obtain ⟨y, n, i, h0, h1, h2⟩ := h
  exact (c_figures (by decide) h0).monoI (fun r M9 => by
    rintro ⟨k1, k2⟩
    by_cases q : isFg y n i
    · obtain ⟨rfl, q2⟩ := k1 q; exact h1 q M9 q2
    · obtain ⟨rfl, rfl⟩ := k2 q; exact h2 q)
