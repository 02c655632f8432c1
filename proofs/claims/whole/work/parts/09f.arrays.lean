/-! the simulation, fifth part: arrays -/
theorem okC_arr {t n i k : Nat} {v : Int} {c : Nat → Nat → Int} (ho : okC (t, n) (c i)) (h0 : ¬ t < 13) (h1 : t = 100 → inI v) (h2 : t = 101 → inL v) (h3 : t = 102 → v = 0 ∨ v = 1) (h4 : t = 103 ∨ t = 104 → v ≠ 0) : okC (t, n) (u2 c i k v i) := by
  refine ⟨ho.1, ?_⟩
  have key : ∀ (p : Int → Prop), (∀ j, j < n → p (c i j)) → p v → ∀ j, j < n → p (u2 c i k v i j) := by
    intro p hp hv j hj
    by_cases h : j = k
    · subst h; simp only [u2, and_self, if_true]; exact hv
    · simp only [u2, h, and_false, if_false]; exact hp j hj
  rcases ho.2 with h | h | h | h | h
  · exact absurd h.1 h0
  · exact Or.inr (Or.inl ⟨h.1, key inI h.2 (h1 h.1)⟩)
  · exact Or.inr (Or.inr (Or.inl ⟨h.1, key inL h.2 (h2 h.1)⟩))
  · exact Or.inr (Or.inr (Or.inr (Or.inl ⟨h.1, key (fun v => v = 0 ∨ v = 1) h.2 (h3 h.1)⟩)))
  · exact Or.inr (Or.inr (Or.inr (Or.inr ⟨h.1, key (fun v => v ≠ 0) h.2 (h4 h.1)⟩)))
theorem no111 {L i n : Nat} {xs : Nat → Int32} {hp : HP} (hw : wfH L xs hp) (h : hp.1[i]? = some (111, n)) : False := by
  have hi := x_tag hw h (by simp) (by simp) (by simp) (by simp)
  have := okC_tags (hw.2.2.2 _ _ hi h)
  omega
theorem u2_fun32 {c : Nat → Nat → Int} {i k : Nat} {v : Int} : (fun j => Int32.ofInt (u2 c i k v i j)) = upd (fun j => Int32.ofInt (c i j)) k (Int32.ofInt v) := by
  funext j
  by_cases h : j = k
  · subst h; simp [u2, upd]
  · simp [u2, upd, h]
theorem u2_fun64 {c : Nat → Nat → Int} {i k : Nat} {v : Int} : (fun j => Int64.ofInt (u2 c i k v i j)) = vp_updL (fun j => Int64.ofInt (c i j)) k (Int64.ofInt v) := by
  funext j
  by_cases h : j = k
  · subst h; simp [u2, vp_updL]
  · simp [u2, vp_updL, h]
theorem u2_funR {P : PB} {c : Nat → Nat → Int} {i k : Nat} {v : Int} (hv : 0 ≤ v) : (fun j => rfo P (u2 c i k v i j)) = va_up (fun j => rfo P (c i j)) k (some (ad P v.toNat)) := by
  funext j
  by_cases h : j = k
  · subst h; simp [u2, va_up, rfo, show ¬ v < 0 by omega]
  · simp [u2, va_up, h]
theorem nar_z {v : Int} (hv : v = 0 ∨ v = 1) : vp_nar .boolean (Int32.ofInt v) = Int32.ofInt v := by
  rcases hv with rfl | rfl <;> decide
section SIM
variable {p : Program} {l : Launch} {e : Env} {R : Room} {s : State} {m : MethodId} {args : Array Value} {below : List Frame} {meth : Method} {c : Code} {Q : State → Prop} {P : PB} {y L d n0 z0 : Nat} {xs : Nat → Int32} {r : RT}

theorem stA_len : ∀ j, j < 3 → (stA j).2.length ≤ 100 := by decide +kernel
theorem lens_le : ∀ j, j < 12 → lens.getD j 0 ≤ 100 := by decide +kernel
set_option maxHeartbeats 4000000 in
theorem sim3 (C : CX p R s m args meth c P y L d n0 z0 xs r) {pc : Nat} {ri : RI} {ls : LVs} {st : List AV} {hp : HP} {k : KT} (hc : cdAt y pc = some ri) (h : sK3 (Cd d) ri pc ls st hp k = some r) (hk : ∀ pc' ls' st' hp', k pc' ls' st' hp' = some r → KJ p l e R s m args below meth c Q P y L n0 z0 xs r pc' ls' st' hp') : KJ p l e R s m args below meth c Q P y L n0 z0 xs r pc ls st hp := by
  have C0 := C
  obtain ⟨hx, hb, hml, hown, hts, hWD, hsz, hn0, hmn, hfr, hlo, hce, hsl⟩ := C
  have hq := hWD.2.2.2
  have hKK := hWD.2.2.1.1
  unfold sK3 at h
  split at h
  · rename_i a b cc x z
    obtain ⟨hd, hok, hwd, hof⟩ := at_ok hc (by simp)
    have hd : decode (mByt y) (mOff y pc) = .ok (.iaload, 1) := hd
    have hof : mOff y (pc + 1) = mOff y pc + 1 := hof
    intro hI
    have hw := hI.2.2.2.1
    obtain ⟨o, i, q, rfl, h9⟩ := eIA_inv h
    obtain ⟨v, hg, h9⟩ := bnd_inv h9
    have wi : inI i := wf_head hI.2.2.1
    obtain ⟨h0, t, n, hqn, ht, hi0, hin, rfl⟩ := gA_inv hg
    have hvin : vp_in (Int32.ofInt i) n := vp_i wi hi0 hin
    have hk2 : i.toNat < n := by omega
    rcases ht with ht | ht
    · have ht : t = 100 := by omega
      subst ht
      have hi : KX ≤ o.toNat := x_tag hw hqn (by simp) (by simp) (by simp) (by simp)
      have hwf := (okC_t (hw.2.2.2 _ _ hi hqn)).1 rfl i.toNat hk2
      obtain ⟨hR, hW⟩ := hk _ _ _ _ h9 ⟨hI.1, hI.2.1, wf_cons (show inI _ from hwf) (wf_tail (wf_tail hI.2.2.1)), hI.2.2.2⟩
      refine ⟨hR, fun H locs lsr hL hP hS => ?_⟩
      have hW := hW H locs lsr hL hP hS
      rw [List.map_cons, List.map_cons, show cv P (vA o) = cvA P o from rfl, cvA_ge h0 hi]
      refine va_iald hx hb hKK hP (o.toNat - KX) 0 (by rw [wsO_get hi hqn, entE_100]) rfl hvin hd ?_
      exact W.eq (F0_eq hof.symm (by rw [i_nat wi hi0]; rfl)) hW
    · have ht : t = 110 := by omega
      subst ht
      have hi : o.toNat < KX := x_low hw hqn (Or.inl rfl)
      have hct := hw.2.2.1 o.toNat i.toNat hi
      rcases x_at hw hi hqn with ⟨-, g⟩ | ⟨hj, g⟩ | ⟨j, hj, hj2, g⟩ | ⟨_, -, -, g⟩ | ⟨_, -, -, g⟩
      · cases g
      · cases g
        rw [hj, xCt_1] at hct
        obtain ⟨hR, hW⟩ := hk _ _ _ _ h9 ⟨hI.1, hI.2.1, wf_cons (show inI _ by rw [hj, hct]; exact inI_t _) (wf_tail (wf_tail hI.2.2.1)), hI.2.2.2⟩
        refine ⟨hR, fun H locs lsr hL hP hS => ?_⟩
        have hW := hW H locs lsr hL hP hS
        rw [List.map_cons, List.map_cons, show cv P (vA o) = cvA P o from rfl, cvA_pos (by omega) (by omega), hj, show ad P 1 = P.2.1 1 from rfl]
        refine va_ti (v := .int (xs i.toNat)) hx hb hWD.2.2.1.2.1 hS hvin (by rw [i_nat wi hi0]) hd ?_
        exact W.eq (F0_eq hof.symm (by rw [List.map_cons]; simp only [cv]; rw [hj, hct, Int32.ofInt_toInt])) hW
      · cases g
        rw [hj2, xCt_A xs hj] at hct
        obtain ⟨hR, hW⟩ := hk _ _ _ _ h9 ⟨hI.1, hI.2.1, wf_cons (show inI _ by rw [hj2, hct]; exact inI_getD (stA_in j hj) _) (wf_tail (wf_tail hI.2.2.1)), hI.2.2.2⟩
        refine ⟨hR, fun H locs lsr hL hP hS => ?_⟩
        have hW := hW H locs lsr hL hP hS
        rw [List.map_cons, List.map_cons, show cv P (vA o) = cvA P o from rfl, cvA_pos (by omega) (by omega), hj2, show ad P (2 + j) = P.2.1 (2 + j) by simp [ad, show 2 + j < KX by show _ < 29; omega]]
        refine va_ti (v := .int (Int32.ofInt ((stA j).2.getD i.toNat 0))) hx hb (hWD.2.2.1.2.2.1 j hj).1 hS hvin (by rw [i_nat wi hi0]) hd ?_
        exact W.eq (F0_eq hof.symm (by rw [List.map_cons]; simp only [cv]; rw [hj2, hct])) hW
      · cases g
      · cases g
  · rename_i a b cc x z
    obtain ⟨hd, hok, hwd, hof⟩ := at_ok hc (by simp)
    have hd : decode (mByt y) (mOff y pc) = .ok (.laload, 1) := hd
    have hof : mOff y (pc + 1) = mOff y pc + 1 := hof
    intro hI
    have hw := hI.2.2.2.1
    obtain ⟨o, i, q, rfl, h9⟩ := eIA_inv h
    obtain ⟨v, hg, h9⟩ := bnd_inv h9
    have wi : inI i := wf_head hI.2.2.1
    obtain ⟨h0, t, n, hqn, ht, hi0, hin, rfl⟩ := gA_inv hg
    have hvin : vp_in (Int32.ofInt i) n := vp_i wi hi0 hin
    have hk2 : i.toNat < n := by omega
    rcases ht with ht | ht
    · have ht : t = 101 := by omega
      subst ht
      have hi : KX ≤ o.toNat := x_tag hw hqn (by simp) (by simp) (by simp) (by simp)
      have hwf := (okC_t (hw.2.2.2 _ _ hi hqn)).2.1 rfl i.toNat hk2
      obtain ⟨hR, hW⟩ := hk _ _ _ _ h9 ⟨hI.1, hI.2.1, wf_cons (show inL _ from hwf) (wf_tail (wf_tail hI.2.2.1)), hI.2.2.2⟩
      refine ⟨hR, fun H locs lsr hL hP hS => ?_⟩
      have hW := hW H locs lsr hL hP hS
      rw [List.map_cons, List.map_cons, show cv P (vA o) = cvA P o from rfl, cvA_ge h0 hi]
      refine va_lald hx hb hKK hP (o.toNat - KX) 1 (by rw [wsO_get hi hqn, entE_101]) rfl hvin hd ?_
      exact W.eq (F0_eq hof.symm (by rw [i_nat wi hi0]; rfl)) hW
    · have ht : t = 111 := by omega
      subst ht
      exact (no111 hw hqn).elim
  · rename_i a b cc x z
    obtain ⟨hd, hok, hwd, hof⟩ := at_ok hc (by simp)
    have hd : decode (mByt y) (mOff y pc) = .ok (.baload, 1) := hd
    have hof : mOff y (pc + 1) = mOff y pc + 1 := hof
    intro hI
    have hw := hI.2.2.2.1
    obtain ⟨o, i, q, rfl, h9⟩ := eIA_inv h
    obtain ⟨v, hg, h9⟩ := bnd_inv h9
    have wi : inI i := wf_head hI.2.2.1
    obtain ⟨h0, t, n, hqn, ht, hi0, hin, rfl⟩ := gA_inv hg
    have hvin : vp_in (Int32.ofInt i) n := vp_i wi hi0 hin
    have hk2 : i.toNat < n := by omega
    rcases ht with ht | ht
    · have ht : t = 102 := by omega
      subst ht
      have hi : KX ≤ o.toNat := x_tag hw hqn (by simp) (by simp) (by simp) (by simp)
      have hwf := (okC_t (hw.2.2.2 _ _ hi hqn)).2.2.1 rfl i.toNat hk2
      have hwf : inI (hp.2 o.toNat i.toNat) := by rcases hwf with g | g <;> rw [g] <;> exact ⟨by decide, by decide⟩
      obtain ⟨hR, hW⟩ := hk _ _ _ _ h9 ⟨hI.1, hI.2.1, wf_cons (show inI _ from hwf) (wf_tail (wf_tail hI.2.2.1)), hI.2.2.2⟩
      refine ⟨hR, fun H locs lsr hL hP hS => ?_⟩
      have hW := hW H locs lsr hL hP hS
      rw [List.map_cons, List.map_cons, show cv P (vA o) = cvA P o from rfl, cvA_ge h0 hi]
      refine va_zald hx hb hKK hP (o.toNat - KX) 2 (by rw [wsO_get hi hqn, entE_102]) rfl hvin hd ?_
      exact W.eq (F0_eq hof.symm (by rw [i_nat wi hi0]; rfl)) hW
    · have ht : t = 112 := by omega
      subst ht
      have hi : o.toNat < KX := x_low hw hqn (Or.inr (Or.inr rfl))
      have hct := hw.2.2.1 o.toNat i.toNat hi
      rcases x_at hw hi hqn with ⟨-, g⟩ | ⟨-, g⟩ | ⟨_, -, -, g⟩ | ⟨_, -, -, g⟩ | ⟨j, hj, hj2, g⟩
      · cases g
      · cases g
      · cases g
      · cases g
      · cases g
        rw [hj2, xCt_V] at hct
        obtain ⟨hR, hW⟩ := hk _ _ _ _ h9 ⟨hI.1, hI.2.1, wf_cons (show inI _ by rw [hj2, hct]; exact inI_getD (stS_in j hj) _) (wf_tail (wf_tail hI.2.2.1)), hI.2.2.2⟩
        refine ⟨hR, fun H locs lsr hL hP hS => ?_⟩
        have hW := hW H locs lsr hL hP hS
        rw [List.map_cons, List.map_cons, show cv P (vA o) = cvA P o from rfl, cvA_pos (by omega) (by omega), hj2, show ad P (6 + 2 * j) = P.2.1 (6 + 2 * j) by simp [ad, show 6 + 2 * j < KX by show _ < 29; omega]]
        refine va_tb (v := .int (Int32.ofInt ((byts (stS j)).getD i.toNat 0))) hx hb (hWD.2.2.1.2.2.2.2.2.1.1 j hj).2.2.2 hS hvin (by rw [i_nat wi hi0, bytL_at j hj, map_getD]) hd ?_
        exact W.eq (F0_eq hof.symm (by rw [List.map_cons]; simp only [cv]; rw [hj2, hct])) hW
  · rename_i a b cc x z
    obtain ⟨hd, hok, hwd, hof⟩ := at_ok hc (by simp)
    have hd : decode (mByt y) (mOff y pc) = .ok (.aaload, 1) := hd
    have hof : mOff y (pc + 1) = mOff y pc + 1 := hof
    intro hI
    have hw := hI.2.2.2.1
    obtain ⟨o, i, q, rfl, h9⟩ := eIA_inv h
    obtain ⟨v, hg, h9⟩ := bnd_inv h9
    have wi : inI i := wf_head hI.2.2.1
    obtain ⟨h0, t, n, hqn, ht, hi0, hin, rfl⟩ := gR_inv hg
    have hvin : vp_in (Int32.ofInt i) n := vp_i wi hi0 hin
    have hk2 : i.toNat < n := by omega
    have hi : KX ≤ o.toNat := x_tag hw hqn (by simp; omega) (by simp; omega) (by simp; omega) (by simp; omega)
    have hne := (okC_t (hw.2.2.2 _ _ hi hqn)).2.2.2 ht i.toNat hk2
    obtain ⟨hR, hW⟩ := hk _ _ _ _ h9 ⟨hI.1, hI.2.1, wf_cons trivial (wf_tail (wf_tail hI.2.2.1)), hI.2.2.2⟩
    refine ⟨hR, fun H locs lsr hL hP hS => ?_⟩
    have hW := hW H locs lsr hL hP hS
    rw [List.map_cons, List.map_cons, show cv P (vA o) = cvA P o from rfl, cvA_ge h0 hi]
    rcases ht with rfl | rfl
    · refine va_aldq hx hb hKK hP (o.toNat - KX) 3 (by rw [wsO_get hi hqn, entE_103]) rfl hvin hd ?_
      exact W.eq (F0_eq hof.symm (by rw [i_nat wi hi0, rfo_cv hne]; rfl)) hW
    · refine va_aldq hx hb hKK hP (o.toNat - KX) 4 (by rw [wsO_get hi hqn, entE_104]) rfl hvin hd ?_
      exact W.eq (F0_eq hof.symm (by rw [i_nat wi hi0, rfo_cv hne]; rfl)) hW
  · rename_i a b cc x z
    obtain ⟨hd, hok, hwd, hof⟩ := at_ok hc (by simp)
    have hd : decode (mByt y) (mOff y pc) = .ok (.iastore, 1) := hd
    have hof : mOff y (pc + 1) = mOff y pc + 1 := hof
    intro hI
    have hw := hI.2.2.2.1
    obtain ⟨o, i, v, q, rfl, h9⟩ := eIIA_inv h
    have wi : inI i := wf_head (wf_tail hI.2.2.1)
    obtain ⟨h2, hg, h9⟩ := bnd_inv h9
    obtain ⟨h0, n, hqn, hi0, hin, rfl⟩ := pA_inv hg
    have hqn : hp.1[o.toNat]? = some (100, n) := hqn
    have hvin : vp_in (Int32.ofInt i) n := vp_i wi hi0 hin
    have hi : KX ≤ o.toNat := x_tag hw hqn (by simp) (by simp) (by simp) (by simp)
    have hw2 : wfH L xs (hp.1, u2 hp.2 o.toNat i.toNat v) := wfH_set hw hi hqn (fun ho => okC_arr ho (by decide) (fun _ => wf_head hI.2.2.1) (fun g => by omega) (fun g => by omega) (fun g => by omega))
    obtain ⟨hR, hW⟩ := hk _ _ _ _ h9 ⟨hI.1, hI.2.1, wf_tail (wf_tail (wf_tail hI.2.2.1)), hw2, hI.2.2.2.2⟩
    refine ⟨hR, fun H locs lsr hL hP hS => ?_⟩
    rw [List.map_cons, List.map_cons, List.map_cons, show cv P (vA o) = cvA P o from rfl, cvA_ge h0 hi]
    refine va_iast hx hb hKK hP (wsO_D P hp) hS (o.toNat - KX) 0 (by rw [wsO_get hi hqn, entE_100]) rfl hvin hd (fun H1 locs1 g1 _ g3 => ?_)
    rw [i_nat wi hi0, ← u2_fun32, ← entE_100, wsO_u2 hi hqn] at g1
    exact W.eq (F0_eq hof.symm rfl) (hW H1 locs1 lsr hL g1 g3)
  · rename_i a b cc x z
    obtain ⟨hd, hok, hwd, hof⟩ := at_ok hc (by simp)
    have hd : decode (mByt y) (mOff y pc) = .ok (.lastore, 1) := hd
    have hof : mOff y (pc + 1) = mOff y pc + 1 := hof
    intro hI
    have hw := hI.2.2.2.1
    obtain ⟨o, i, v, q, rfl, h9⟩ := eLIA_inv h
    have wi : inI i := wf_head (wf_tail hI.2.2.1)
    obtain ⟨h2, hg, h9⟩ := bnd_inv h9
    obtain ⟨h0, n, hqn, hi0, hin, rfl⟩ := pA_inv hg
    have hqn : hp.1[o.toNat]? = some (101, n) := hqn
    have hvin : vp_in (Int32.ofInt i) n := vp_i wi hi0 hin
    have hi : KX ≤ o.toNat := x_tag hw hqn (by simp) (by simp) (by simp) (by simp)
    have hw2 : wfH L xs (hp.1, u2 hp.2 o.toNat i.toNat v) := wfH_set hw hi hqn (fun ho => okC_arr ho (by decide) (fun g => by omega) (fun _ => wf_head hI.2.2.1) (fun g => by omega) (fun g => by omega))
    obtain ⟨hR, hW⟩ := hk _ _ _ _ h9 ⟨hI.1, hI.2.1, wf_tail (wf_tail (wf_tail hI.2.2.1)), hw2, hI.2.2.2.2⟩
    refine ⟨hR, fun H locs lsr hL hP hS => ?_⟩
    rw [List.map_cons, List.map_cons, List.map_cons, show cv P (vA o) = cvA P o from rfl, cvA_ge h0 hi]
    refine va_last hx hb hKK hP (wsO_D P hp) hS (o.toNat - KX) 1 (by rw [wsO_get hi hqn, entE_101]) rfl hvin hd (fun H1 locs1 g1 _ g3 => ?_)
    rw [i_nat wi hi0, ← u2_fun64, ← entE_101, wsO_u2 hi hqn] at g1
    exact W.eq (F0_eq hof.symm rfl) (hW H1 locs1 lsr hL g1 g3)
  · rename_i a b cc x z
    obtain ⟨hd, hok, hwd, hof⟩ := at_ok hc (by simp)
    have hd : decode (mByt y) (mOff y pc) = .ok (.bastore, 1) := hd
    have hof : mOff y (pc + 1) = mOff y pc + 1 := hof
    intro hI
    have hw := hI.2.2.2.1
    obtain ⟨o, i, v, q, rfl, h9⟩ := eIIA_inv h
    have wi : inI i := wf_head (wf_tail hI.2.2.1)
    by_cases hv01 : v = 0 ∨ v = 1
    case neg => rw [if_neg hv01] at h9; cases h9
    rw [if_pos hv01] at h9
    obtain ⟨h2, hg, h9⟩ := bnd_inv h9
    obtain ⟨h0, n, hqn, hi0, hin, rfl⟩ := pA_inv hg
    have hqn : hp.1[o.toNat]? = some (102, n) := hqn
    have hvin : vp_in (Int32.ofInt i) n := vp_i wi hi0 hin
    have hi : KX ≤ o.toNat := x_tag hw hqn (by simp) (by simp) (by simp) (by simp)
    have hw2 : wfH L xs (hp.1, u2 hp.2 o.toNat i.toNat v) := wfH_set hw hi hqn (fun ho => okC_arr ho (by decide) (fun g => by omega) (fun g => by omega) (fun _ => hv01) (fun g => by omega))
    obtain ⟨hR, hW⟩ := hk _ _ _ _ h9 ⟨hI.1, hI.2.1, wf_tail (wf_tail (wf_tail hI.2.2.1)), hw2, hI.2.2.2.2⟩
    refine ⟨hR, fun H locs lsr hL hP hS => ?_⟩
    rw [List.map_cons, List.map_cons, List.map_cons, show cv P (vA o) = cvA P o from rfl, cvA_ge h0 hi]
    refine va_zast hx hb hKK hP (wsO_D P hp) hS (o.toNat - KX) 2 (by rw [wsO_get hi hqn, entE_102]) rfl hvin hd (fun H1 locs1 g1 _ g3 => ?_)
    rw [i_nat wi hi0, nar_z hv01, ← u2_fun32, ← entE_102, wsO_u2 hi hqn] at g1
    exact W.eq (F0_eq hof.symm rfl) (hW H1 locs1 lsr hL g1 g3)
  · rename_i a b cc x z
    obtain ⟨hd, hok, hwd, hof⟩ := at_ok hc (by simp)
    have hd : decode (mByt y) (mOff y pc) = .ok (.aastore, 1) := hd
    have hof : mOff y (pc + 1) = mOff y pc + 1 := hof
    intro hI
    have hw := hI.2.2.2.1
    obtain ⟨o, i, v, q, rfl, h9⟩ := eAIA_inv h
    have wi : inI i := wf_head (wf_tail hI.2.2.1)
    obtain ⟨h2, hg, h9⟩ := bnd_inv h9
    obtain ⟨h0, hv0, t, n, t2, n2, hqn, hvn, htt, hi0, hin, rfl⟩ := pR_inv hg
    have hvin : vp_in (Int32.ofInt i) n := vp_i wi hi0 hin
    have hi : KX ≤ o.toNat := x_tag hw hqn (by simp; omega) (by simp; omega) (by simp; omega) (by simp; omega)
    have hi2 : KX ≤ v.toNat := x_tag hw hvn (by simp; omega) (by simp; omega) (by simp; omega) (by simp; omega)
    have hKX : KX = 29 := rfl
    have hw2 : wfH L xs (hp.1, u2 hp.2 o.toNat i.toNat v) := wfH_set hw hi hqn (fun ho => okC_arr ho (by omega) (fun g => by omega) (fun g => by omega) (fun g => by omega) (fun _ => by omega))
    obtain ⟨hR, hW⟩ := hk _ _ _ _ h9 ⟨hI.1, hI.2.1, wf_tail (wf_tail (wf_tail hI.2.2.1)), hw2, hI.2.2.2.2⟩
    refine ⟨hR, fun H locs lsr hL hP hS => ?_⟩
    rw [List.map_cons, List.map_cons, List.map_cons, show cv P (vA o) = cvA P o from rfl, show cv P (vA v) = cvA P v from rfl, cvA_ge h0 hi, cvA_ge hv0 hi2]
    rcases htt with ⟨rfl, rfl⟩ | ⟨rfl, rfl⟩
    · refine va_astq (r := (RX1, TX1, 10)) hx hb hKK hP (wsO_D P hp) hS (o.toNat - KX) 3 (v.toNat - KX) 1 (by rw [wsO_get hi hqn, entE_103]) rfl (by rw [wsO_get hi2 hvn, entE_o (by decide)]) rfl hvin hd (fun H1 locs1 g1 _ g3 => ?_)
      rw [i_nat wi hi0, ← u2_funR hv0, ← entE_103, wsO_u2 hi hqn] at g1
      exact W.eq (F0_eq hof.symm rfl) (hW H1 locs1 lsr hL g1 g3)
    · refine va_astq (r := (RX8, TX8, 4)) hx hb hKK hP (wsO_D P hp) hS (o.toNat - KX) 4 (v.toNat - KX) 8 (by rw [wsO_get hi hqn, entE_104]) rfl (by rw [wsO_get hi2 hvn, entE_o (by decide)]) rfl hvin hd (fun H1 locs1 g1 _ g3 => ?_)
      rw [i_nat wi hi0, ← u2_funR hv0, ← entE_104, wsO_u2 hi hqn] at g1
      exact W.eq (F0_eq hof.symm rfl) (hW H1 locs1 lsr hL g1 g3)
  · rename_i a b cc x z
    obtain ⟨hd, hok, hwd, hof⟩ := at_ok hc (by simp)
    have hd : decode (mByt y) (mOff y pc) = .ok (.arraylength, 1) := hd
    have hof : mOff y (pc + 1) = mOff y pc + 1 := hof
    intro hI
    have hw := hI.2.2.2.1
    obtain ⟨o, q, rfl, h9⟩ := e1A_inv h
    obtain ⟨v, hg, h9⟩ := bnd_inv h9
    obtain ⟨h0, t, n, hqn, ht, rfl⟩ := gL_inv hg
    by_cases hi : KX ≤ o.toNat
    · have ho := hw.2.2.2 _ _ hi hqn
      have hn : n ≤ 100000 := ho.1
      obtain ⟨hR, hW⟩ := hk _ _ _ _ h9 ⟨hI.1, hI.2.1, wf_cons (show inI (n : Int) from ⟨by omega, by omega⟩) (wf_tail hI.2.2.1), hI.2.2.2⟩
      refine ⟨hR, fun H locs lsr hL hP hS => ?_⟩
      have hW := hW H locs lsr hL hP hS
      rw [List.map_cons, show cv P (vA o) = cvA P o from rfl, cvA_ge h0 hi]
      rcases okC_tags ho with g | rfl | rfl | rfl | rfl | rfl
      · omega
      · exact va_alen hx hb hKK hP (o.toNat - KX) 0 (by rw [wsO_get hi hqn, entE_100]) rfl (i_ofNat n) hd (W.eq (F0_eq hof.symm rfl) hW)
      · exact va_alen hx hb hKK hP (o.toNat - KX) 1 (by rw [wsO_get hi hqn, entE_101]) rfl (i_ofNat n) hd (W.eq (F0_eq hof.symm rfl) hW)
      · exact va_alen hx hb hKK hP (o.toNat - KX) 2 (by rw [wsO_get hi hqn, entE_102]) rfl (i_ofNat n) hd (W.eq (F0_eq hof.symm rfl) hW)
      · exact va_alen hx hb hKK hP (o.toNat - KX) 3 (by rw [wsO_get hi hqn, entE_103]) rfl (i_ofNat n) hd (W.eq (F0_eq hof.symm rfl) hW)
      · exact va_alen hx hb hKK hP (o.toNat - KX) 4 (by rw [wsO_get hi hqn, entE_104]) rfl (i_ofNat n) hd (W.eq (F0_eq hof.symm rfl) hW)
    · have hi : o.toNat < KX := by omega
      rcases x_at hw hi hqn with ⟨-, g⟩ | ⟨hj, g⟩ | ⟨j, hj, hj2, g⟩ | ⟨_, -, -, g⟩ | ⟨j, hj, hj2, g⟩
      · cases g; omega
      · cases g
        have hn : L ≤ 3072 := hw.1.2
        obtain ⟨hR, hW⟩ := hk _ _ _ _ h9 ⟨hI.1, hI.2.1, wf_cons (show inI (L : Int) from ⟨by omega, by omega⟩) (wf_tail hI.2.2.1), hI.2.2.2⟩
        refine ⟨hR, fun H locs lsr hL hP hS => ?_⟩
        have hW := hW H locs lsr hL hP hS
        rw [List.map_cons, show cv P (vA o) = cvA P o from rfl, cvA_pos (by omega) (by omega), hj, show ad P 1 = P.2.1 1 from rfl]
        exact va_tlen hx hb hWD.2.2.1.2.1 hS (i_ofNat L) hd (W.eq (F0_eq hof.symm rfl) hW)
      · cases g
        have hn : (stA j).2.length ≤ 100 := by have := stA_len j hj; omega
        obtain ⟨hR, hW⟩ := hk _ _ _ _ h9 ⟨hI.1, hI.2.1, wf_cons (show inI (((stA j).2.length : Nat) : Int) from ⟨by omega, by omega⟩) (wf_tail hI.2.2.1), hI.2.2.2⟩
        refine ⟨hR, fun H locs lsr hL hP hS => ?_⟩
        have hW := hW H locs lsr hL hP hS
        rw [List.map_cons, show cv P (vA o) = cvA P o from rfl, cvA_pos (by omega) (by omega), hj2, show ad P (2 + j) = P.2.1 (2 + j) by simp [ad, show 2 + j < KX by show _ < 29; omega]]
        exact va_tlen hx hb (hWD.2.2.1.2.2.1 j hj).1 hS (i_ofNat _) hd (W.eq (F0_eq hof.symm rfl) hW)
      · cases g; omega
      · cases g
        have hn : lens.getD j 0 ≤ 100 := by have := lens_le j hj; omega
        obtain ⟨hR, hW⟩ := hk _ _ _ _ h9 ⟨hI.1, hI.2.1, wf_cons (show inI ((lens.getD j 0 : Nat) : Int) from ⟨by omega, by omega⟩) (wf_tail hI.2.2.1), hI.2.2.2⟩
        refine ⟨hR, fun H locs lsr hL hP hS => ?_⟩
        have hW := hW H locs lsr hL hP hS
        rw [List.map_cons, show cv P (vA o) = cvA P o from rfl, cvA_pos (by omega) (by omega), hj2, show ad P (6 + 2 * j) = P.2.1 (6 + 2 * j) by simp [ad, show 6 + 2 * j < KX by show _ < 29; omega]]
        exact va_tlen hx hb (hWD.2.2.1.2.2.2.2.2.1.1 j hj).2.2.2 hS (i_ofNat _) hd (W.eq (F0_eq hof.symm rfl) hW)
  · intro _; cases h

end SIM
