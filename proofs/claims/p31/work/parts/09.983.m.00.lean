section
set_option maxRecDepth 40000 in
set_option maxHeartbeats 4000000 in
theorem gm_again {p : Program} {l : Launch} {e : Env} {s : State} {m : MethodId} {below : List Frame} {meth : Method} {c : Code} {E : zE} {G : zG} {b L bx bm cells slots : Nat} {xs : Nat → Int32} {mi : Nat → Option Nat} {ko : Option Nat} {T : TT} {M : Nat → Nat → Int32} {I : Nat → TT} {H : Heap} {locs : List Loc} {ls : Array Slot} {pc idx : Nat} {a1 : Int32} (rest : List Value) (hcs : cells ≤ room_1.cells ∧ slots ≤ room_1.slots) (C0 : lw_At p s m meth c b L xs) (hbx : s.heap.size ≤ bx) (hbm : bx + 93 ≤ bm) (hK : zK E s) (hO : zO s ∧ zZ G (fun q => s.heap.size ≤ q) s s.heap) (hG : GG E bx bm mi ko T M I H) (hS : va_S (fun q => s.heap.size ≤ q) s.heap H locs) (hls : ls.size = 4) (hW : (rest.map fun v => v.category).sum ≤ 8) (hlk : Cond.methodLink RL idx yX11_again ∈ zb) (hd : decode cL_law pc = .ok (.invokevirtual idx, 3))
    (kk : ∀ (r : Int32) (M' : Nat → Nat → Int32) (H : Heap) (locs : List Loc), (mAG M M' a1 r) → GG E bx bm mi ko T M' I H → va_S (fun q => s.heap.size ≤ q) s.heap H locs → W p l e room_1 s m #[Value.ref b] below meth c H locs cells slots (lw_Z below #[Value.ref b] s) (F0 m (pc + 3) ls (.int r :: rest))) : W p l e room_1 s m #[Value.ref b] below meth c H locs cells slots (lw_Z below #[Value.ref b] s) (F0 m pc ls (.int a1 :: .ref bm :: rest)) := by
  obtain ⟨hx, hb, hr, hml, hown, hts, hX0, hbl, hlocks, hgv⟩ := id C0
  have zc : zC p s m #[Value.ref b] meth c cL_law 4 RL ret := ⟨hx, hb, hml, hown, fun w hw => hts w (zb_in hw), hr, hlocks⟩
  obtain ⟨hXS, hMS, hE, hT, hMT⟩ := hG
  obtain ⟨S, V, f_word, a_rest, hI, hM⟩ := id hMS
  refine zVx_i [.int a1] rest zc ky_X11_again kz_X11_again hlk (c_m_again l (post := (fun r f_code a_tape a_size a_fault a_faultPlace a_many a_lands a_evenings a_sights a_choirs => (mAG M (mmk a_tape a_size a_fault a_faultPlace a_many a_lands a_evenings a_sights a_choirs (M 9)) a1 r) ∧ (iv 0 0 f_code) ∧ (∀ j, iv (-128) 127 (a_tape j)) ∧ (∀ j, iv 0 600 (a_size j)) ∧ (∀ j, iv 0 2 (a_many j)) ∧ (mLand a_lands) ∧ (mEve a_evenings) ∧ (mSig a_sights) ∧ (mCho a_choirs))) (cj_q_m_again_0 (post_1 := fun r f_code a_tape a_size a_fault a_faultPlace a_many a_lands a_evenings a_sights a_choirs => mAG M (mmk a_tape a_size a_fault a_faultPlace a_many a_lands a_evenings a_sights a_choirs (M 9)) a1 r) (post_2 := (fun r f_code a_tape a_size a_fault a_faultPlace a_many a_lands a_evenings a_sights a_choirs => (iv 0 0 f_code) ∧ (∀ j, iv (-128) 127 (a_tape j)) ∧ (∀ j, iv 0 600 (a_size j)) ∧ (∀ j, iv 0 2 (a_many j)) ∧ (mLand a_lands) ∧ (mEve a_evenings) ∧ (mSig a_sights) ∧ (mCho a_choirs))) (post_3 := (fun r f_code a_tape a_size a_fault a_faultPlace a_many a_lands a_evenings a_sights a_choirs => (mAG M (mmk a_tape a_size a_fault a_faultPlace a_many a_lands a_evenings a_sights a_choirs (M 9)) a1 r) ∧ (iv 0 0 f_code) ∧ (∀ j, iv (-128) 127 (a_tape j)) ∧ (∀ j, iv 0 600 (a_size j)) ∧ (∀ j, iv 0 2 (a_many j)) ∧ (mLand a_lands) ∧ (mEve a_evenings) ∧ (mSig a_sights) ∧ (mCho a_choirs))) (fun _ _ _ _ _ _ _ _ _ _ _ a b => ⟨a, b⟩) (e_m_again2 (M := M) (hMT.1) (fun _ _ _ _ _ _ _ _ _ _ h => h)) (e_m_again (hMT.1) (hMT.2.1) (hMT.2.2.1) (hMT.2.2.2.1) (hMT.2.2.2.2.1) (hMT.2.2.2.2.2.1) (hMT.2.2.2.2.2.2.1) (fun _ => ⟨iv_lit (by decide), (hMT.1), (hMT.2.1), (hMT.2.2.1), (hMT.2.2.2.1), (hMT.2.2.2.2.1), (hMT.2.2.2.2.2.1), (hMT.2.2.2.2.2.2.1)⟩) (fun _ _ _ _ t z fa fp mn l e2 s c _ _ g0 g1 g2 g3 g4 g5 g6 => ⟨iv_lit (by decide), g0, g1, g2, g3, g4, g5, g6⟩)))) (mPreV0 hK hM) hS (fun q (h : mA bm q) => Nat.le_trans hbx (Nat.le_trans (Nat.le_trans (Nat.le_add_right bx 93) hbm) h.1)) rfl rfl hls hW ⟨rfl, rfl⟩ ⟨(Nat.le_of_ble_eq_true rfl), (Nat.le_of_ble_eq_true rfl)⟩ hcs hd (fun r u H1 locs1 hw h9 hk hS => ?_)
  obtain ⟨f_code, a_tape, a_size, a_fault, a_faultPlace, a_many, a_lands, a_evenings, a_sights, a_choirs⟩ := u
  obtain ⟨hrel, n_f_code, n_a_tape, n_a_size, n_a_many, n_a_lands, n_a_evenings, n_a_sights, n_a_choirs⟩ := hw
  exact kk r (mmk a_tape a_size a_fault a_faultPlace a_many a_lands a_evenings a_sights a_choirs (M 9)) _ _ hrel ⟨XS_kp hXS (fun z h1 h2 h3 => hk z h1 (fun (hA : mA bm z) => zap hbm hA.1 h3)), MS_of h9 n_f_code (hI.1 12) (hI.1 13) (hI.1 14) (hI.2 2) (hI.2 3) (hI.2 4) (hI.2 6) (hI.1 16) (hI.2 7) (hI.2 8) (hI.2 12) (hI.2 13) (hI.2 14) (hI.1 21) (hI.2 16), lE_kp hE (fun z h1 h2 => hk z h1 (fun (hA : mA bm z) => absurd hA.2 (Nat.not_lt.mpr h2))), hT, ⟨n_a_tape, n_a_size, n_a_many, n_a_lands, n_a_evenings, n_a_sights, n_a_choirs, (hMT.2.2.2.2.2.2.2)⟩⟩ hS

set_option maxRecDepth 40000 in
set_option maxHeartbeats 4000000 in
theorem gm_best {p : Program} {l : Launch} {e : Env} {s : State} {m : MethodId} {below : List Frame} {meth : Method} {c : Code} {E : zE} {G : zG} {b L bx bm cells slots : Nat} {xs : Nat → Int32} {mi : Nat → Option Nat} {ko : Option Nat} {T : TT} {M : Nat → Nat → Int32} {I : Nat → TT} {H : Heap} {locs : List Loc} {ls : Array Slot} {pc idx : Nat} {a1 a2 : Int32} (rest : List Value) (hcs : cells ≤ room_1.cells ∧ slots ≤ room_1.slots) (C0 : lw_At p s m meth c b L xs) (hbx : s.heap.size ≤ bx) (hbm : bx + 93 ≤ bm) (hK : zK E s) (hO : zO s ∧ zZ G (fun q => s.heap.size ≤ q) s s.heap) (hG : GG E bx bm mi ko T M I H) (hS : va_S (fun q => s.heap.size ≤ q) s.heap H locs) (hls : ls.size = 4) (hW : (rest.map fun v => v.category).sum ≤ 8) (hlk : Cond.methodLink RL idx yX11_best ∈ zb) (hd : decode cL_law pc = .ok (.invokevirtual idx, 3))
    (kk : ∀ (r : Int32) (M' : Nat → Nat → Int32) (H : Heap) (locs : List Loc), (M' = M) → GG E bx bm mi ko T M' I H → va_S (fun q => s.heap.size ≤ q) s.heap H locs → W p l e room_1 s m #[Value.ref b] below meth c H locs cells slots (lw_Z below #[Value.ref b] s) (F0 m (pc + 3) ls (.int r :: rest))) : W p l e room_1 s m #[Value.ref b] below meth c H locs cells slots (lw_Z below #[Value.ref b] s) (F0 m pc ls (.int a2 :: .int a1 :: .ref bm :: rest)) := by
  obtain ⟨hx, hb, hr, hml, hown, hts, hX0, hbl, hlocks, hgv⟩ := id C0
  have zc : zC p s m #[Value.ref b] meth c cL_law 4 RL ret := ⟨hx, hb, hml, hown, fun w hw => hts w (zb_in hw), hr, hlocks⟩
  obtain ⟨hXS, hMS, hE, hT, hMT⟩ := hG
  obtain ⟨S, V, f_word, a_rest, hI, hM⟩ := id hMS
  refine zVx_i [.int a1, .int a2] rest zc ky_X11_best kz_X11_best hlk (c_m_best l (post := (fun r f_code f_land f_huts f_singers a_run => (iv 0 0 f_code) ∧ (iv 0 1 f_land) ∧ (iv 0 9 f_huts) ∧ (iv 0 6 f_singers) ∧ (∀ j, iv 0 1000000 (a_run j)))) (s_m_best_0 (hI.1 0) (hMT.2.2.1) (hMT.2.2.2.1) (hI.1 12) (hI.1 13) (hI.1 14) (hI.2 7) (fun _ _ _ _ _ _ _ h1 h2 h3 h4 h5 => ⟨h1, h2, h3, h4, h5⟩))) (mPreV0 hK hM) hS (fun q (h : mA bm q) => Nat.le_trans hbx (Nat.le_trans (Nat.le_trans (Nat.le_add_right bx 93) hbm) h.1)) rfl rfl hls hW ⟨rfl, rfl⟩ ⟨(Nat.le_of_ble_eq_true rfl), (Nat.le_of_ble_eq_true rfl)⟩ hcs hd (fun r u H1 locs1 hw h9 hk hS => ?_)
  obtain ⟨f_code, f_land, f_huts, f_singers, a_run⟩ := u
  obtain ⟨n_f_code, n_f_land, n_f_huts, n_f_singers, n_a_run⟩ := hw
  exact kk r _ _ _ rfl ⟨XS_kp hXS (fun z h1 h2 h3 => hk z h1 (fun (hA : mA bm z) => zap hbm hA.1 h3)), MS_of1 (M := M) h9 n_f_code n_f_land n_f_huts n_f_singers (hI.2 2) (hI.2 3) (hI.2 4) (hI.2 6) (hI.1 16) n_a_run (hI.2 8) (hI.2 12) (hI.2 13) (hI.2 14) (hI.1 21) (hI.2 16), lE_kp hE (fun z h1 h2 => hk z h1 (fun (hA : mA bm z) => absurd hA.2 (Nat.not_lt.mpr h2))), hT, hMT⟩ hS

set_option maxRecDepth 40000 in
set_option maxHeartbeats 4000000 in
theorem gm_carry {p : Program} {l : Launch} {e : Env} {s : State} {m : MethodId} {below : List Frame} {meth : Method} {c : Code} {E : zE} {G : zG} {b L bx bm cells slots : Nat} {xs : Nat → Int32} {mi : Nat → Option Nat} {ko : Option Nat} {T : TT} {M : Nat → Nat → Int32} {I : Nat → TT} {H : Heap} {locs : List Loc} {ls : Array Slot} {pc idx : Nat} {a1 a2 a3 : Int32} (rest : List Value) (hcs : cells ≤ room_1.cells ∧ slots ≤ room_1.slots) (C0 : lw_At p s m meth c b L xs) (hbx : s.heap.size ≤ bx) (hbm : bx + 93 ≤ bm) (hK : zK E s) (hO : zO s ∧ zZ G (fun q => s.heap.size ≤ q) s s.heap) (hG : GG E bx bm mi ko T M I H) (hS : va_S (fun q => s.heap.size ≤ q) s.heap H locs) (hls : ls.size = 4) (hW : (rest.map fun v => v.category).sum ≤ 8) (hlk : Cond.methodLink RL idx yX11_carry ∈ zb) (hd : decode cL_law pc = .ok (.invokevirtual idx, 3))
    (kk : ∀ (r : Int32) (M' : Nat → Nat → Int32) (H : Heap) (locs : List Loc), (M' = M) → GG E bx bm mi ko T M' I H → va_S (fun q => s.heap.size ≤ q) s.heap H locs → W p l e room_1 s m #[Value.ref b] below meth c H locs cells slots (lw_Z below #[Value.ref b] s) (F0 m (pc + 3) ls (.int r :: rest))) : W p l e room_1 s m #[Value.ref b] below meth c H locs cells slots (lw_Z below #[Value.ref b] s) (F0 m pc ls (.int a3 :: .int a2 :: .int a1 :: .ref bm :: rest)) := by
  obtain ⟨hx, hb, hr, hml, hown, hts, hX0, hbl, hlocks, hgv⟩ := id C0
  have zc : zC p s m #[Value.ref b] meth c cL_law 4 RL ret := ⟨hx, hb, hml, hown, fun w hw => hts w (zb_in hw), hr, hlocks⟩
  obtain ⟨hXS, hMS, hE, hT, hMT⟩ := hG
  obtain ⟨S, V, f_word, a_rest, hI, hM⟩ := id hMS
  refine zVx_i [.int a1, .int a2, .int a3] rest zc ky_X11_carry kz_X11_carry hlk (c_m_carry l (post := (fun r f_code f_land f_huts f_singers a_run a_far => (iv 0 0 f_code) ∧ (iv 0 1 f_land) ∧ (iv 0 9 f_huts) ∧ (iv 0 6 f_singers) ∧ (∀ j, iv 0 1000000 (a_run j)) ∧ (∀ j, iv 0 1000000 (a_far j)))) (s_m_carry_0 (hI.1 0) (hMT.2.2.1) (hMT.2.2.2.1) (hI.1 12) (hI.1 13) (hI.1 14) (hI.2 7) (hI.2 13) (fun _ _ _ _ _ _ _ _ h1 h2 h3 h4 h5 h6 => ⟨h1, h2, h3, h4, h5, h6⟩))) (mPreV0 hK hM) hS (fun q (h : mA bm q) => Nat.le_trans hbx (Nat.le_trans (Nat.le_trans (Nat.le_add_right bx 93) hbm) h.1)) rfl rfl hls hW ⟨rfl, rfl⟩ ⟨(Nat.le_of_ble_eq_true rfl), (Nat.le_of_ble_eq_true rfl)⟩ hcs hd (fun r u H1 locs1 hw h9 hk hS => ?_)
  obtain ⟨f_code, f_land, f_huts, f_singers, a_run, a_far⟩ := u
  obtain ⟨n_f_code, n_f_land, n_f_huts, n_f_singers, n_a_run, n_a_far⟩ := hw
  exact kk r _ _ _ rfl ⟨XS_kp hXS (fun z h1 h2 h3 => hk z h1 (fun (hA : mA bm z) => zap hbm hA.1 h3)), MS_of1 (M := M) h9 n_f_code n_f_land n_f_huts n_f_singers (hI.2 2) (hI.2 3) (hI.2 4) (hI.2 6) (hI.1 16) n_a_run (hI.2 8) (hI.2 12) n_a_far (hI.2 14) (hI.1 21) (hI.2 16), lE_kp hE (fun z h1 h2 => hk z h1 (fun (hA : mA bm z) => absurd hA.2 (Nat.not_lt.mpr h2))), hT, hMT⟩ hS

set_option maxRecDepth 40000 in
set_option maxHeartbeats 4000000 in
theorem gm_choir {p : Program} {l : Launch} {e : Env} {s : State} {m : MethodId} {below : List Frame} {meth : Method} {c : Code} {E : zE} {G : zG} {b L bx bm cells slots : Nat} {xs : Nat → Int32} {mi : Nat → Option Nat} {ko : Option Nat} {T : TT} {M : Nat → Nat → Int32} {I : Nat → TT} {H : Heap} {locs : List Loc} {ls : Array Slot} {pc idx : Nat} {a1 a2 : Int32} (rest : List Value) (hcs : cells ≤ room_1.cells ∧ slots ≤ room_1.slots) (C0 : lw_At p s m meth c b L xs) (hbx : s.heap.size ≤ bx) (hbm : bx + 93 ≤ bm) (hK : zK E s) (hO : zO s ∧ zZ G (fun q => s.heap.size ≤ q) s s.heap) (hG : GG E bx bm mi ko T M I H) (hS : va_S (fun q => s.heap.size ≤ q) s.heap H locs) (hls : ls.size = 4) (hW : (rest.map fun v => v.category).sum ≤ 8) (hlk : Cond.methodLink RL idx yX11_choir ∈ zb) (hd : decode cL_law pc = .ok (.invokevirtual idx, 3))
    (kk : ∀ (r : Int32) (M' : Nat → Nat → Int32) (H : Heap) (locs : List Loc), (M' = M) → GG E bx bm mi ko T M' I H → va_S (fun q => s.heap.size ≤ q) s.heap H locs → W p l e room_1 s m #[Value.ref b] below meth c H locs cells slots (lw_Z below #[Value.ref b] s) (F0 m (pc + 3) ls (.int r :: rest))) : W p l e room_1 s m #[Value.ref b] below meth c H locs cells slots (lw_Z below #[Value.ref b] s) (F0 m pc ls (.int a2 :: .int a1 :: .ref bm :: rest)) := by
  obtain ⟨hx, hb, hr, hml, hown, hts, hX0, hbl, hlocks, hgv⟩ := id C0
  have zc : zC p s m #[Value.ref b] meth c cL_law 4 RL ret := ⟨hx, hb, hml, hown, fun w hw => hts w (zb_in hw), hr, hlocks⟩
  obtain ⟨hXS, hMS, hE, hT, hMT⟩ := hG
  obtain ⟨S, V, f_word, a_rest, hI, hM⟩ := id hMS
  refine zVx_i [.int a1, .int a2] rest zc ky_X11_choir kz_X11_choir hlk (c_m_choir l (post := (fun r f_code f_choir f_voices a_rest => (iv 0 0 f_code) ∧ (iv 0 9 f_voices))) (s_m_choir_0 (hI.1 0) (hMT.2.2.1) (hMT.2.2.2.2.2.2.1) (hI.1 21) (fun _ _ _ _ _ h0 h1 => ⟨h0, h1⟩))) (mPreV0 hK hM) hS (fun q (h : mA bm q) => Nat.le_trans hbx (Nat.le_trans (Nat.le_trans (Nat.le_add_right bx 93) hbm) h.1)) rfl rfl hls hW ⟨rfl, rfl⟩ ⟨(Nat.le_of_ble_eq_true rfl), (Nat.le_of_ble_eq_true rfl)⟩ hcs hd (fun r u H1 locs1 hw h9 hk hS => ?_)
  obtain ⟨f_code, f_choir, f_voices, a_rest⟩ := u
  obtain ⟨n_f_code, n_f_voices⟩ := hw
  exact kk r _ _ _ rfl ⟨XS_kp hXS (fun z h1 h2 h3 => hk z h1 (fun (hA : mA bm z) => zap hbm hA.1 h3)), MS_of1 (M := M) h9 n_f_code (hI.1 12) (hI.1 13) (hI.1 14) (hI.2 2) (hI.2 3) (hI.2 4) (hI.2 6) (hI.1 16) (hI.2 7) (hI.2 8) (hI.2 12) (hI.2 13) (hI.2 14) n_f_voices (hI.2 16), lE_kp hE (fun z h1 h2 => hk z h1 (fun (hA : mA bm z) => absurd hA.2 (Nat.not_lt.mpr h2))), hT, hMT⟩ hS

set_option maxRecDepth 40000 in
set_option maxHeartbeats 4000000 in
theorem gm_comes {p : Program} {l : Launch} {e : Env} {s : State} {m : MethodId} {below : List Frame} {meth : Method} {c : Code} {E : zE} {G : zG} {b L bx bm cells slots : Nat} {xs : Nat → Int32} {mi : Nat → Option Nat} {ko : Option Nat} {T : TT} {M : Nat → Nat → Int32} {I : Nat → TT} {H : Heap} {locs : List Loc} {ls : Array Slot} {pc idx : Nat} {a1 a2 a3 : Int32} (rest : List Value) (hcs : cells ≤ room_1.cells ∧ slots ≤ room_1.slots) (C0 : lw_At p s m meth c b L xs) (hbx : s.heap.size ≤ bx) (hbm : bx + 93 ≤ bm) (hK : zK E s) (hO : zO s ∧ zZ G (fun q => s.heap.size ≤ q) s s.heap) (hG : GG E bx bm mi ko T M I H) (hS : va_S (fun q => s.heap.size ≤ q) s.heap H locs) (hls : ls.size = 4) (hW : (rest.map fun v => v.category).sum ≤ 8) (hlk : Cond.methodLink RL idx yX11_comes ∈ zb) (hd : decode cL_law pc = .ok (.invokevirtual idx, 3))
    (kk : ∀ (r : Int32) (M' : Nat → Nat → Int32) (H : Heap) (locs : List Loc), (M' = M) → GG E bx bm mi ko T M' I H → va_S (fun q => s.heap.size ≤ q) s.heap H locs → W p l e room_1 s m #[Value.ref b] below meth c H locs cells slots (lw_Z below #[Value.ref b] s) (F0 m (pc + 3) ls (.int r :: rest))) : W p l e room_1 s m #[Value.ref b] below meth c H locs cells slots (lw_Z below #[Value.ref b] s) (F0 m pc ls (.int a3 :: .int a2 :: .int a1 :: .ref bm :: rest)) := by
  obtain ⟨hx, hb, hr, hml, hown, hts, hX0, hbl, hlocks, hgv⟩ := id C0
  have zc : zC p s m #[Value.ref b] meth c cL_law 4 RL ret := ⟨hx, hb, hml, hown, fun w hw => hts w (zb_in hw), hr, hlocks⟩
  obtain ⟨hXS, hMS, hE, hT, hMT⟩ := hG
  obtain ⟨S, V, f_word, a_rest, hI, hM⟩ := id hMS
  refine zVx_i [.int a1, .int a2, .int a3] rest zc ky_X11_comes kz_X11_comes hlk (c_m_comes l (post := (fun r f_code f_land f_huts f_singers a_run => (iv 0 0 f_code) ∧ (iv 0 1 f_land) ∧ (iv 0 9 f_huts) ∧ (iv 0 6 f_singers) ∧ (∀ j, iv 0 1000000 (a_run j)))) (s_m_comes_0 (hI.1 0) (hMT.2.2.1) (hMT.2.2.2.1) (hI.1 12) (hI.1 13) (hI.1 14) (hI.2 7) (fun _ _ _ _ _ _ _ h1 h2 h3 h4 h5 => ⟨h1, h2, h3, h4, h5⟩))) (mPreV0 hK hM) hS (fun q (h : mA bm q) => Nat.le_trans hbx (Nat.le_trans (Nat.le_trans (Nat.le_add_right bx 93) hbm) h.1)) rfl rfl hls hW ⟨rfl, rfl⟩ ⟨(Nat.le_of_ble_eq_true rfl), (Nat.le_of_ble_eq_true rfl)⟩ hcs hd (fun r u H1 locs1 hw h9 hk hS => ?_)
  obtain ⟨f_code, f_land, f_huts, f_singers, a_run⟩ := u
  obtain ⟨n_f_code, n_f_land, n_f_huts, n_f_singers, n_a_run⟩ := hw
  exact kk r _ _ _ rfl ⟨XS_kp hXS (fun z h1 h2 h3 => hk z h1 (fun (hA : mA bm z) => zap hbm hA.1 h3)), MS_of1 (M := M) h9 n_f_code n_f_land n_f_huts n_f_singers (hI.2 2) (hI.2 3) (hI.2 4) (hI.2 6) (hI.1 16) n_a_run (hI.2 8) (hI.2 12) (hI.2 13) (hI.2 14) (hI.1 21) (hI.2 16), lE_kp hE (fun z h1 h2 => hk z h1 (fun (hA : mA bm z) => absurd hA.2 (Nat.not_lt.mpr h2))), hT, hMT⟩ hS

set_option maxRecDepth 40000 in
set_option maxHeartbeats 4000000 in
theorem gm_count {p : Program} {l : Launch} {e : Env} {s : State} {m : MethodId} {below : List Frame} {meth : Method} {c : Code} {E : zE} {G : zG} {b L bx bm cells slots : Nat} {xs : Nat → Int32} {mi : Nat → Option Nat} {ko : Option Nat} {T : TT} {M : Nat → Nat → Int32} {I : Nat → TT} {H : Heap} {locs : List Loc} {ls : Array Slot} {pc idx : Nat} {a1 : Int32} (rest : List Value) (hcs : cells ≤ room_1.cells ∧ slots ≤ room_1.slots) (C0 : lw_At p s m meth c b L xs) (hbx : s.heap.size ≤ bx) (hbm : bx + 93 ≤ bm) (hK : zK E s) (hO : zO s ∧ zZ G (fun q => s.heap.size ≤ q) s s.heap) (hG : GG E bx bm mi ko T M I H) (hS : va_S (fun q => s.heap.size ≤ q) s.heap H locs) (hls : ls.size = 4) (hW : (rest.map fun v => v.category).sum ≤ 8) (hlk : Cond.methodLink RL idx yX11_count ∈ zb) (hd : decode cL_law pc = .ok (.invokevirtual idx, 3))
    (kk : ∀ (r : Int32) (M' : Nat → Nat → Int32) (H : Heap) (locs : List Loc), (M' = M) → GG E bx bm mi ko T M' I H → va_S (fun q => s.heap.size ≤ q) s.heap H locs → W p l e room_1 s m #[Value.ref b] below meth c H locs cells slots (lw_Z below #[Value.ref b] s) (F0 m (pc + 3) ls (.int r :: rest))) : W p l e room_1 s m #[Value.ref b] below meth c H locs cells slots (lw_Z below #[Value.ref b] s) (F0 m pc ls (.int a1 :: .ref bm :: rest)) := by
  obtain ⟨hx, hb, hr, hml, hown, hts, hX0, hbl, hlocks, hgv⟩ := id C0
  have zc : zC p s m #[Value.ref b] meth c cL_law 4 RL ret := ⟨hx, hb, hml, hown, fun w hw => hts w (zb_in hw), hr, hlocks⟩
  obtain ⟨hXS, hMS, hE, hT, hMT⟩ := hG
  obtain ⟨S, V, f_word, a_rest, hI, hM⟩ := id hMS
  refine zVx_i [.int a1] rest zc ky_X11_count kz_X11_count hlk (c_m_count l (post := (fun r f_code => (iv 0 0 f_code))) (s_m_count_0 (hI.1 0) (hMT.2.2.1) (fun _ _ _ h1 => h1))) (mPreV0 hK hM) hS (fun q (h : mA bm q) => Nat.le_trans hbx (Nat.le_trans (Nat.le_trans (Nat.le_add_right bx 93) hbm) h.1)) rfl rfl hls hW ⟨rfl, rfl⟩ ⟨(Nat.le_of_ble_eq_true rfl), (Nat.le_of_ble_eq_true rfl)⟩ hcs hd (fun r u H1 locs1 hw h9 hk hS => ?_)
  obtain ⟨f_code, eu⟩ : ∃ y, y = u := ⟨u, rfl⟩
  subst eu
  have n_f_code := hw
  exact kk r _ _ _ rfl ⟨XS_kp hXS (fun z h1 h2 h3 => hk z h1 (fun (hA : mA bm z) => zap hbm hA.1 h3)), MS_of1 (M := M) h9 n_f_code (hI.1 12) (hI.1 13) (hI.1 14) (hI.2 2) (hI.2 3) (hI.2 4) (hI.2 6) (hI.1 16) (hI.2 7) (hI.2 8) (hI.2 12) (hI.2 13) (hI.2 14) (hI.1 21) (hI.2 16), lE_kp hE (fun z h1 h2 => hk z h1 (fun (hA : mA bm z) => absurd hA.2 (Nat.not_lt.mpr h2))), hT, hMT⟩ hS

set_option maxRecDepth 40000 in
set_option maxHeartbeats 4000000 in
theorem gm_deed {p : Program} {l : Launch} {e : Env} {s : State} {m : MethodId} {below : List Frame} {meth : Method} {c : Code} {E : zE} {G : zG} {b L bx bm cells slots : Nat} {xs : Nat → Int32} {mi : Nat → Option Nat} {ko : Option Nat} {T : TT} {M : Nat → Nat → Int32} {I : Nat → TT} {H : Heap} {locs : List Loc} {ls : Array Slot} {pc idx : Nat} {a1 a2 a3 : Int32} (rest : List Value) (hcs : cells ≤ room_1.cells ∧ slots ≤ room_1.slots) (C0 : lw_At p s m meth c b L xs) (hbx : s.heap.size ≤ bx) (hbm : bx + 93 ≤ bm) (hK : zK E s) (hO : zO s ∧ zZ G (fun q => s.heap.size ≤ q) s s.heap) (hG : GG E bx bm mi ko T M I H) (hS : va_S (fun q => s.heap.size ≤ q) s.heap H locs) (hls : ls.size = 4) (hW : (rest.map fun v => v.category).sum ≤ 8) (hlk : Cond.methodLink RL idx yX11_deed ∈ zb) (hd : decode cL_law pc = .ok (.invokevirtual idx, 3))
    (kk : ∀ (r : Int32) (M' : Nat → Nat → Int32) (H : Heap) (locs : List Loc), (M' = M) → GG E bx bm mi ko T M' I H → va_S (fun q => s.heap.size ≤ q) s.heap H locs → W p l e room_1 s m #[Value.ref b] below meth c H locs cells slots (lw_Z below #[Value.ref b] s) (F0 m (pc + 3) ls (.int r :: rest))) : W p l e room_1 s m #[Value.ref b] below meth c H locs cells slots (lw_Z below #[Value.ref b] s) (F0 m pc ls (.int a3 :: .int a2 :: .int a1 :: .ref bm :: rest)) := by
  obtain ⟨hx, hb, hr, hml, hown, hts, hX0, hbl, hlocks, hgv⟩ := id C0
  have zc : zC p s m #[Value.ref b] meth c cL_law 4 RL ret := ⟨hx, hb, hml, hown, fun w hw => hts w (zb_in hw), hr, hlocks⟩
  obtain ⟨hXS, hMS, hE, hT, hMT⟩ := hG
  obtain ⟨S, V, f_word, a_rest, hI, hM⟩ := id hMS
  refine zVx_i [.int a1, .int a2, .int a3] rest zc ky_X11_deed kz_X11_deed hlk (c_m_deed l (post := (fun r f_code f_evening => (iv 0 0 f_code))) (s_m_deed_0 (hI.1 0) (hMT.2.2.1) (hMT.2.2.2.2.1) (fun _ _ _ _ h1 => h1))) (mPreV0 hK hM) hS (fun q (h : mA bm q) => Nat.le_trans hbx (Nat.le_trans (Nat.le_trans (Nat.le_add_right bx 93) hbm) h.1)) rfl rfl hls hW ⟨rfl, rfl⟩ ⟨(Nat.le_of_ble_eq_true rfl), (Nat.le_of_ble_eq_true rfl)⟩ hcs hd (fun r u H1 locs1 hw h9 hk hS => ?_)
  obtain ⟨f_code, f_evening⟩ := u
  have n_f_code := hw
  exact kk r _ _ _ rfl ⟨XS_kp hXS (fun z h1 h2 h3 => hk z h1 (fun (hA : mA bm z) => zap hbm hA.1 h3)), MS_of1 (M := M) h9 n_f_code (hI.1 12) (hI.1 13) (hI.1 14) (hI.2 2) (hI.2 3) (hI.2 4) (hI.2 6) (hI.1 16) (hI.2 7) (hI.2 8) (hI.2 12) (hI.2 13) (hI.2 14) (hI.1 21) (hI.2 16), lE_kp hE (fun z h1 h2 => hk z h1 (fun (hA : mA bm z) => absurd hA.2 (Nat.not_lt.mpr h2))), hT, hMT⟩ hS

set_option maxRecDepth 40000 in
set_option maxHeartbeats 4000000 in
theorem gm_drawn {p : Program} {l : Launch} {e : Env} {s : State} {m : MethodId} {below : List Frame} {meth : Method} {c : Code} {E : zE} {G : zG} {b L bx bm cells slots : Nat} {xs : Nat → Int32} {mi : Nat → Option Nat} {ko : Option Nat} {T : TT} {M : Nat → Nat → Int32} {I : Nat → TT} {H : Heap} {locs : List Loc} {ls : Array Slot} {pc idx : Nat} {a1 a2 a3 a4 : Int32} (rest : List Value) (hcs : cells ≤ room_1.cells ∧ slots ≤ room_1.slots) (C0 : lw_At p s m meth c b L xs) (hbx : s.heap.size ≤ bx) (hbm : bx + 93 ≤ bm) (hK : zK E s) (hO : zO s ∧ zZ G (fun q => s.heap.size ≤ q) s s.heap) (hG : GG E bx bm mi ko T M I H) (hS : va_S (fun q => s.heap.size ≤ q) s.heap H locs) (hls : ls.size = 4) (hW : (rest.map fun v => v.category).sum ≤ 8) (hlk : Cond.methodLink RL idx yX11_drawn ∈ zb) (hd : decode cL_law pc = .ok (.invokevirtual idx, 3))
    (kk : ∀ (r : Int32) (M' : Nat → Nat → Int32) (H : Heap) (locs : List Loc), (M' = M) → GG E bx bm mi ko T M' I H → va_S (fun q => s.heap.size ≤ q) s.heap H locs → W p l e room_1 s m #[Value.ref b] below meth c H locs cells slots (lw_Z below #[Value.ref b] s) (F0 m (pc + 3) ls (.int r :: rest))) : W p l e room_1 s m #[Value.ref b] below meth c H locs cells slots (lw_Z below #[Value.ref b] s) (F0 m pc ls (.int a4 :: .int a3 :: .int a2 :: .int a1 :: .ref bm :: rest)) := by
  obtain ⟨hx, hb, hr, hml, hown, hts, hX0, hbl, hlocks, hgv⟩ := id C0
  have zc : zC p s m #[Value.ref b] meth c cL_law 4 RL ret := ⟨hx, hb, hml, hown, fun w hw => hts w (zb_in hw), hr, hlocks⟩
  obtain ⟨hXS, hMS, hE, hT, hMT⟩ := hG
  obtain ⟨S, V, f_word, a_rest, hI, hM⟩ := id hMS
  refine zVx_i [.int a1, .int a2, .int a3, .int a4] rest zc ky_X11_drawn kz_X11_drawn hlk (c_m_drawn l (post := (fun r f_code f_land f_huts f_singers a_at a_knows a_climbed a_snow a_level f_begun f_minute f_avalanches f_seed => (iv 0 0 f_code) ∧ (iv 0 1 f_land) ∧ (iv 0 9 f_huts) ∧ (iv 0 6 f_singers) ∧ (∀ j, iv 0 8 (a_at j)) ∧ (∀ j, iv 0 31 (a_knows j)) ∧ (∀ j, iv 0 1 (a_climbed j)) ∧ (∀ j, iv (-9) 108 (a_level j)) ∧ (iv 0 31 f_begun))) (s_m_drawn_0 (hI.1 0) (hMT.2.2.1) (hMT.2.2.2.1) (hI.1 12) (hI.1 13) (hI.1 14) (hI.2 2) (hI.2 3) (hI.2 4) (hI.2 6) (hI.1 16) (fun _ _ _ _ _ _ _ _ _ _ _ _ _ _ h0 h1 h2 h3 h4 h5 h6 h7 h8 => ⟨h0, h1, h2, h3, h4, h5, h6, h7, h8⟩))) (mPreV0 hK hM) hS (fun q (h : mA bm q) => Nat.le_trans hbx (Nat.le_trans (Nat.le_trans (Nat.le_add_right bx 93) hbm) h.1)) rfl rfl hls hW ⟨rfl, rfl⟩ ⟨(Nat.le_of_ble_eq_true rfl), (Nat.le_of_ble_eq_true rfl)⟩ hcs hd (fun r u H1 locs1 hw h9 hk hS => ?_)
  obtain ⟨f_code, f_land, f_huts, f_singers, a_at, a_knows, a_climbed, a_snow, a_level, f_begun, f_minute, f_avalanches, f_seed⟩ := u
  obtain ⟨n_f_code, n_f_land, n_f_huts, n_f_singers, n_a_at, n_a_knows, n_a_climbed, n_a_level, n_f_begun⟩ := hw
  exact kk r _ _ _ rfl ⟨XS_kp hXS (fun z h1 h2 h3 => hk z h1 (fun (hA : mA bm z) => zap hbm hA.1 h3)), MS_of1 (M := M) h9 n_f_code n_f_land n_f_huts n_f_singers n_a_at n_a_knows n_a_climbed n_a_level n_f_begun (hI.2 7) (hI.2 8) (hI.2 12) (hI.2 13) (hI.2 14) (hI.1 21) (hI.2 16), lE_kp hE (fun z h1 h2 => hk z h1 (fun (hA : mA bm z) => absurd hA.2 (Nat.not_lt.mpr h2))), hT, hMT⟩ hS
end
section
set_option maxRecDepth 40000 in
set_option maxHeartbeats 4000000 in
theorem gm_echo {p : Program} {l : Launch} {e : Env} {s : State} {m : MethodId} {below : List Frame} {meth : Method} {c : Code} {E : zE} {G : zG} {b L bx bm cells slots : Nat} {xs : Nat → Int32} {mi : Nat → Option Nat} {ko : Option Nat} {T : TT} {M : Nat → Nat → Int32} {I : Nat → TT} {H : Heap} {locs : List Loc} {ls : Array Slot} {pc idx : Nat} {a1 a2 a3 : Int32} (rest : List Value) (hcs : cells ≤ room_1.cells ∧ slots ≤ room_1.slots) (C0 : lw_At p s m meth c b L xs) (hbx : s.heap.size ≤ bx) (hbm : bx + 93 ≤ bm) (hK : zK E s) (hO : zO s ∧ zZ G (fun q => s.heap.size ≤ q) s s.heap) (hG : GG E bx bm mi ko T M I H) (hS : va_S (fun q => s.heap.size ≤ q) s.heap H locs) (hls : ls.size = 4) (hW : (rest.map fun v => v.category).sum ≤ 8) (hlk : Cond.methodLink RL idx yX11_echo ∈ zb) (hd : decode cL_law pc = .ok (.invokevirtual idx, 3))
    (kk : ∀ (r : Int32) (M' : Nat → Nat → Int32) (H : Heap) (locs : List Loc), (M' = M) → GG E bx bm mi ko T M' I H → va_S (fun q => s.heap.size ≤ q) s.heap H locs → W p l e room_1 s m #[Value.ref b] below meth c H locs cells slots (lw_Z below #[Value.ref b] s) (F0 m (pc + 3) ls (.int r :: rest))) : W p l e room_1 s m #[Value.ref b] below meth c H locs cells slots (lw_Z below #[Value.ref b] s) (F0 m pc ls (.int a3 :: .int a2 :: .int a1 :: .ref bm :: rest)) := by
  obtain ⟨hx, hb, hr, hml, hown, hts, hX0, hbl, hlocks, hgv⟩ := id C0
  have zc : zC p s m #[Value.ref b] meth c cL_law 4 RL ret := ⟨hx, hb, hml, hown, fun w hw => hts w (zb_in hw), hr, hlocks⟩
  obtain ⟨hXS, hMS, hE, hT, hMT⟩ := hG
  obtain ⟨S, V, f_word, a_rest, hI, hM⟩ := id hMS
  refine zVx_i [.int a1, .int a2, .int a3] rest zc ky_X11_echo kz_X11_echo hlk (c_m_echo l (post := (fun r f_code f_land f_huts f_singers => (iv 0 0 f_code) ∧ (iv 0 1 f_land) ∧ (iv 0 9 f_huts) ∧ (iv 0 6 f_singers))) (s_m_echo_0 (hI.1 0) (hMT.2.2.1) (hMT.2.2.2.1) (hI.1 12) (hI.1 13) (hI.1 14) (fun _ _ _ _ _ _ h1 h2 h3 h4 => ⟨h1, h2, h3, h4⟩))) (mPreV0 hK hM) hS (fun q (h : mA bm q) => Nat.le_trans hbx (Nat.le_trans (Nat.le_trans (Nat.le_add_right bx 93) hbm) h.1)) rfl rfl hls hW ⟨rfl, rfl⟩ ⟨(Nat.le_of_ble_eq_true rfl), (Nat.le_of_ble_eq_true rfl)⟩ hcs hd (fun r u H1 locs1 hw h9 hk hS => ?_)
  obtain ⟨f_code, f_land, f_huts, f_singers⟩ := u
  obtain ⟨n_f_code, n_f_land, n_f_huts, n_f_singers⟩ := hw
  exact kk r _ _ _ rfl ⟨XS_kp hXS (fun z h1 h2 h3 => hk z h1 (fun (hA : mA bm z) => zap hbm hA.1 h3)), MS_of1 (M := M) h9 n_f_code n_f_land n_f_huts n_f_singers (hI.2 2) (hI.2 3) (hI.2 4) (hI.2 6) (hI.1 16) (hI.2 7) (hI.2 8) (hI.2 12) (hI.2 13) (hI.2 14) (hI.1 21) (hI.2 16), lE_kp hE (fun z h1 h2 => hk z h1 (fun (hA : mA bm z) => absurd hA.2 (Nat.not_lt.mpr h2))), hT, hMT⟩ hS

set_option maxRecDepth 40000 in
set_option maxHeartbeats 4000000 in
theorem gm_end {p : Program} {l : Launch} {e : Env} {s : State} {m : MethodId} {below : List Frame} {meth : Method} {c : Code} {E : zE} {G : zG} {b L bx bm cells slots : Nat} {xs : Nat → Int32} {mi : Nat → Option Nat} {ko : Option Nat} {T : TT} {M : Nat → Nat → Int32} {I : Nat → TT} {H : Heap} {locs : List Loc} {ls : Array Slot} {pc idx : Nat} {a1 : Int32} (rest : List Value) (hcs : cells ≤ room_1.cells ∧ slots ≤ room_1.slots) (C0 : lw_At p s m meth c b L xs) (hbx : s.heap.size ≤ bx) (hbm : bx + 93 ≤ bm) (hK : zK E s) (hO : zO s ∧ zZ G (fun q => s.heap.size ≤ q) s s.heap) (hG : GG E bx bm mi ko T M I H) (hS : va_S (fun q => s.heap.size ≤ q) s.heap H locs) (hls : ls.size = 4) (hW : (rest.map fun v => v.category).sum ≤ 8) (hlk : Cond.methodLink RL idx yX11_end ∈ zb) (hd : decode cL_law pc = .ok (.invokevirtual idx, 3))
    (kk : ∀ (r : Int32) (M' : Nat → Nat → Int32) (H : Heap) (locs : List Loc), (mEN M M' a1 r) → GG E bx bm mi ko T M' I H → va_S (fun q => s.heap.size ≤ q) s.heap H locs → W p l e room_1 s m #[Value.ref b] below meth c H locs cells slots (lw_Z below #[Value.ref b] s) (F0 m (pc + 3) ls (.int r :: rest))) : W p l e room_1 s m #[Value.ref b] below meth c H locs cells slots (lw_Z below #[Value.ref b] s) (F0 m pc ls (.int a1 :: .ref bm :: rest)) := by
  obtain ⟨hx, hb, hr, hml, hown, hts, hX0, hbl, hlocks, hgv⟩ := id C0
  have zc : zC p s m #[Value.ref b] meth c cL_law 4 RL ret := ⟨hx, hb, hml, hown, fun w hw => hts w (zb_in hw), hr, hlocks⟩
  obtain ⟨hXS, hMS, hE, hT, hMT⟩ := hG
  obtain ⟨S, V, f_word, a_rest, hI, hM⟩ := id hMS
  refine zVx_i [.int a1] rest zc ky_X11_end kz_X11_end hlk (c_m_end l (post := fun r f_code a_size => r = enR (M 1 0) a1 ∧ a_size 0 = enL (M 1 0) a1 ∧ (∀ j, ¬ j = 0 → a_size j = M 1 j) ∧ iv 0 0 f_code ∧ (∀ j, iv 0 600 (a_size j))) (e_m_end (hMT.2.1) (fun _ h1 h2 h3 => ⟨rfl, h2, h3, iv_lit (by decide), h1⟩))) (mPreV0 hK hM) hS (fun q (h : mA bm q) => Nat.le_trans hbx (Nat.le_trans (Nat.le_trans (Nat.le_add_right bx 93) hbm) h.1)) rfl rfl hls hW ⟨rfl, rfl⟩ ⟨(Nat.le_of_ble_eq_true rfl), (Nat.le_of_ble_eq_true rfl)⟩ hcs hd (fun r u H1 locs1 hw h9 hk hS => ?_)
  obtain ⟨f_code, a_size⟩ := u
  obtain ⟨hr1, z1, z2, n_f_code, n_a_size⟩ := hw
  exact kk r (mmk (M 0) a_size (M 2) (M 3) (M 4) (M 5) (M 6) (M 7) (M 8) (M 9)) _ _ ⟨mSA_mk z2, rfl, hr1, z1⟩ ⟨XS_kp hXS (fun z h1 h2 h3 => hk z h1 (fun (hA : mA bm z) => zap hbm hA.1 h3)), MS_of h9 n_f_code (hI.1 12) (hI.1 13) (hI.1 14) (hI.2 2) (hI.2 3) (hI.2 4) (hI.2 6) (hI.1 16) (hI.2 7) (hI.2 8) (hI.2 12) (hI.2 13) (hI.2 14) (hI.1 21) (hI.2 16), lE_kp hE (fun z h1 h2 => hk z h1 (fun (hA : mA bm z) => absurd hA.2 (Nat.not_lt.mpr h2))), hT, ⟨(hMT.1), n_a_size, (hMT.2.2.1), (hMT.2.2.2.1), (hMT.2.2.2.2.1), (hMT.2.2.2.2.2.1), (hMT.2.2.2.2.2.2.1), (hMT.2.2.2.2.2.2.2)⟩⟩ hS

set_option maxRecDepth 40000 in
set_option maxHeartbeats 4000000 in
theorem gm_fact {p : Program} {l : Launch} {e : Env} {s : State} {m : MethodId} {below : List Frame} {meth : Method} {c : Code} {E : zE} {G : zG} {b L bx bm cells slots : Nat} {xs : Nat → Int32} {mi : Nat → Option Nat} {ko : Option Nat} {T : TT} {M : Nat → Nat → Int32} {I : Nat → TT} {H : Heap} {locs : List Loc} {ls : Array Slot} {pc idx : Nat} {a1 a2 a3 : Int32} (rest : List Value) (hcs : cells ≤ room_1.cells ∧ slots ≤ room_1.slots) (C0 : lw_At p s m meth c b L xs) (hbx : s.heap.size ≤ bx) (hbm : bx + 93 ≤ bm) (hK : zK E s) (hO : zO s ∧ zZ G (fun q => s.heap.size ≤ q) s s.heap) (hG : GG E bx bm mi ko T M I H) (hS : va_S (fun q => s.heap.size ≤ q) s.heap H locs) (hls : ls.size = 4) (hW : (rest.map fun v => v.category).sum ≤ 8) (hlk : Cond.methodLink RL idx yX11_fact ∈ zb) (hd : decode cL_law pc = .ok (.invokevirtual idx, 3))
    (kk : ∀ (r : Int32) (M' : Nat → Nat → Int32) (H : Heap) (locs : List Loc), (M' = M) → GG E bx bm mi ko T M' I H → va_S (fun q => s.heap.size ≤ q) s.heap H locs → W p l e room_1 s m #[Value.ref b] below meth c H locs cells slots (lw_Z below #[Value.ref b] s) (F0 m (pc + 3) ls (.int r :: rest))) : W p l e room_1 s m #[Value.ref b] below meth c H locs cells slots (lw_Z below #[Value.ref b] s) (F0 m pc ls (.int a3 :: .int a2 :: .int a1 :: .ref bm :: rest)) := by
  obtain ⟨hx, hb, hr, hml, hown, hts, hX0, hbl, hlocks, hgv⟩ := id C0
  have zc : zC p s m #[Value.ref b] meth c cL_law 4 RL ret := ⟨hx, hb, hml, hown, fun w hw => hts w (zb_in hw), hr, hlocks⟩
  obtain ⟨hXS, hMS, hE, hT, hMT⟩ := hG
  obtain ⟨S, V, f_word, a_rest, hI, hM⟩ := id hMS
  refine zVx_i [.int a1, .int a2, .int a3] rest zc ky_X11_fact kz_X11_fact hlk (c_m_fact l (post := (fun r f_code f_sight => (iv 0 0 f_code))) (s_m_fact_0 (hI.1 0) (hMT.2.2.1) (hMT.2.2.2.2.2.1) (fun _ _ _ _ h1 => h1))) (mPreV0 hK hM) hS (fun q (h : mA bm q) => Nat.le_trans hbx (Nat.le_trans (Nat.le_trans (Nat.le_add_right bx 93) hbm) h.1)) rfl rfl hls hW ⟨rfl, rfl⟩ ⟨(Nat.le_of_ble_eq_true rfl), (Nat.le_of_ble_eq_true rfl)⟩ hcs hd (fun r u H1 locs1 hw h9 hk hS => ?_)
  obtain ⟨f_code, f_sight⟩ := u
  have n_f_code := hw
  exact kk r _ _ _ rfl ⟨XS_kp hXS (fun z h1 h2 h3 => hk z h1 (fun (hA : mA bm z) => zap hbm hA.1 h3)), MS_of1 (M := M) h9 n_f_code (hI.1 12) (hI.1 13) (hI.1 14) (hI.2 2) (hI.2 3) (hI.2 4) (hI.2 6) (hI.1 16) (hI.2 7) (hI.2 8) (hI.2 12) (hI.2 13) (hI.2 14) (hI.1 21) (hI.2 16), lE_kp hE (fun z h1 h2 => hk z h1 (fun (hA : mA bm z) => absurd hA.2 (Nat.not_lt.mpr h2))), hT, hMT⟩ hS

set_option maxRecDepth 40000 in
set_option maxHeartbeats 4000000 in
theorem gm_fault {p : Program} {l : Launch} {e : Env} {s : State} {m : MethodId} {below : List Frame} {meth : Method} {c : Code} {E : zE} {G : zG} {b L bx bm cells slots : Nat} {xs : Nat → Int32} {mi : Nat → Option Nat} {ko : Option Nat} {T : TT} {M : Nat → Nat → Int32} {I : Nat → TT} {H : Heap} {locs : List Loc} {ls : Array Slot} {pc idx : Nat} {a1 : Int32} (rest : List Value) (hcs : cells ≤ room_1.cells ∧ slots ≤ room_1.slots) (C0 : lw_At p s m meth c b L xs) (hbx : s.heap.size ≤ bx) (hbm : bx + 93 ≤ bm) (hK : zK E s) (hO : zO s ∧ zZ G (fun q => s.heap.size ≤ q) s s.heap) (hG : GG E bx bm mi ko T M I H) (hS : va_S (fun q => s.heap.size ≤ q) s.heap H locs) (hls : ls.size = 4) (hW : (rest.map fun v => v.category).sum ≤ 8) (hlk : Cond.methodLink RL idx yX11_fault ∈ zb) (hd : decode cL_law pc = .ok (.invokevirtual idx, 3))
    (kk : ∀ (r : Int32) (M' : Nat → Nat → Int32) (H : Heap) (locs : List Loc), (M' = M) → GG E bx bm mi ko T M' I H → va_S (fun q => s.heap.size ≤ q) s.heap H locs → W p l e room_1 s m #[Value.ref b] below meth c H locs cells slots (lw_Z below #[Value.ref b] s) (F0 m (pc + 3) ls (.int r :: rest))) : W p l e room_1 s m #[Value.ref b] below meth c H locs cells slots (lw_Z below #[Value.ref b] s) (F0 m pc ls (.int a1 :: .ref bm :: rest)) := by
  obtain ⟨hx, hb, hr, hml, hown, hts, hX0, hbl, hlocks, hgv⟩ := id C0
  have zc : zC p s m #[Value.ref b] meth c cL_law 4 RL ret := ⟨hx, hb, hml, hown, fun w hw => hts w (zb_in hw), hr, hlocks⟩
  obtain ⟨hXS, hMS, hE, hT, hMT⟩ := hG
  obtain ⟨S, V, f_word, a_rest, hI, hM⟩ := id hMS
  refine zVx_i [.int a1] rest zc ky_X11_fault kz_X11_fault hlk (c_m_fault l (post := (fun r f_code => (iv 0 0 f_code))) (s_m_fault_0 (hI.1 0) (fun _ _ h0 => h0))) (mPreV0 hK hM) hS (fun q (h : mA bm q) => Nat.le_trans hbx (Nat.le_trans (Nat.le_trans (Nat.le_add_right bx 93) hbm) h.1)) rfl rfl hls hW ⟨rfl, rfl⟩ ⟨(Nat.le_of_ble_eq_true rfl), (Nat.le_of_ble_eq_true rfl)⟩ hcs hd (fun r u H1 locs1 hw h9 hk hS => ?_)
  obtain ⟨f_code, eu⟩ : ∃ y, y = u := ⟨u, rfl⟩
  subst eu
  have n_f_code := hw
  exact kk r _ _ _ rfl ⟨XS_kp hXS (fun z h1 h2 h3 => hk z h1 (fun (hA : mA bm z) => zap hbm hA.1 h3)), MS_of1 (M := M) h9 n_f_code (hI.1 12) (hI.1 13) (hI.1 14) (hI.2 2) (hI.2 3) (hI.2 4) (hI.2 6) (hI.1 16) (hI.2 7) (hI.2 8) (hI.2 12) (hI.2 13) (hI.2 14) (hI.1 21) (hI.2 16), lE_kp hE (fun z h1 h2 => hk z h1 (fun (hA : mA bm z) => absurd hA.2 (Nat.not_lt.mpr h2))), hT, hMT⟩ hS

set_option maxRecDepth 40000 in
set_option maxHeartbeats 4000000 in
theorem gm_feed {p : Program} {l : Launch} {e : Env} {s : State} {m : MethodId} {below : List Frame} {meth : Method} {c : Code} {E : zE} {G : zG} {b L bx bm cells slots : Nat} {xs : Nat → Int32} {mi : Nat → Option Nat} {ko : Option Nat} {T : TT} {M : Nat → Nat → Int32} {I : Nat → TT} {H : Heap} {locs : List Loc} {ls : Array Slot} {pc idx : Nat} {a1 a2 a3 a4 a5 : Int32} (rest : List Value) (hcs : cells ≤ room_1.cells ∧ slots ≤ room_1.slots) (C0 : lw_At p s m meth c b L xs) (hbx : s.heap.size ≤ bx) (hbm : bx + 93 ≤ bm) (hK : zK E s) (hO : zO s ∧ zZ G (fun q => s.heap.size ≤ q) s s.heap) (hG : GG E bx bm mi ko T M I H) (hS : va_S (fun q => s.heap.size ≤ q) s.heap H locs) (hls : ls.size = 4) (hW : (rest.map fun v => v.category).sum ≤ 8) (hlk : Cond.methodLink RL idx yX11_feed ∈ zb) (hd : decode cL_law pc = .ok (.invokevirtual idx, 3))
    (kk : ∀ (r : Int32) (M' : Nat → Nat → Int32) (H : Heap) (locs : List Loc), (mFD M M' a1 a2 a3 a4 a5 r) → GG E bx bm mi ko T M' I H → va_S (fun q => s.heap.size ≤ q) s.heap H locs → W p l e room_1 s m #[Value.ref b] below meth c H locs cells slots (lw_Z below #[Value.ref b] s) (F0 m (pc + 3) ls (.int r :: rest))) : W p l e room_1 s m #[Value.ref b] below meth c H locs cells slots (lw_Z below #[Value.ref b] s) (F0 m pc ls (.int a5 :: .int a4 :: .int a3 :: .int a2 :: .int a1 :: .ref bm :: rest)) := by
  obtain ⟨hx, hb, hr, hml, hown, hts, hX0, hbl, hlocks, hgv⟩ := id C0
  have zc : zC p s m #[Value.ref b] meth c cL_law 4 RL ret := ⟨hx, hb, hml, hown, fun w hw => hts w (zb_in hw), hr, hlocks⟩
  obtain ⟨hXS, hMS, hE, hT, hMT⟩ := hG
  obtain ⟨S, V, f_word, a_rest, hI, hM⟩ := id hMS
  refine zVx_i [.int a1, .int a2, .int a3, .int a4, .int a5] rest zc ky_X11_feed kz_X11_feed hlk (c_m_feed l (post := (fun r f_code a_tape a_size => (mFD M (mmk a_tape a_size (M 2) (M 3) (M 4) (M 5) (M 6) (M 7) (M 8) (M 9)) a1 a2 a3 a4 a5 r) ∧ (iv 0 0 f_code) ∧ (∀ j, iv (-128) 127 (a_tape j)) ∧ (∀ j, iv 0 600 (a_size j)))) (cj_q_m_feed_0 (post_1 := fun r f_code a_tape a_size => mFD M (mmk a_tape a_size (M 2) (M 3) (M 4) (M 5) (M 6) (M 7) (M 8) (M 9)) a1 a2 a3 a4 a5 r) (post_2 := (fun r f_code a_tape a_size => (iv 0 0 f_code) ∧ (∀ j, iv (-128) 127 (a_tape j)) ∧ (∀ j, iv 0 600 (a_size j)))) (post_3 := (fun r f_code a_tape a_size => (mFD M (mmk a_tape a_size (M 2) (M 3) (M 4) (M 5) (M 6) (M 7) (M 8) (M 9)) a1 a2 a3 a4 a5 r) ∧ (iv 0 0 f_code) ∧ (∀ j, iv (-128) 127 (a_tape j)) ∧ (∀ j, iv 0 600 (a_size j)))) (fun _ _ _ _ a b => ⟨a, b⟩) (e_m_feed2 ((hMT.2.1) 0) (fun h => mFD_no h) (fun _ e hle _ _ hb h0 hz => mFD_yes e hle hb h0 hz)) (e_m_feed (hMT.1) (hMT.2.1) (fun _ _ h1 h2 _ _ => ⟨iv_lit (by decide), h1, h2⟩)))) (mPreV0 hK hM) hS (fun q (h : mA bm q) => Nat.le_trans hbx (Nat.le_trans (Nat.le_trans (Nat.le_add_right bx 93) hbm) h.1)) rfl rfl hls hW ⟨rfl, rfl⟩ ⟨(Nat.le_of_ble_eq_true rfl), (Nat.le_of_ble_eq_true rfl)⟩ hcs hd (fun r u H1 locs1 hw h9 hk hS => ?_)
  obtain ⟨f_code, a_tape, a_size⟩ := u
  obtain ⟨hrel, n_f_code, n_a_tape, n_a_size⟩ := hw
  exact kk r (mmk a_tape a_size (M 2) (M 3) (M 4) (M 5) (M 6) (M 7) (M 8) (M 9)) _ _ hrel ⟨XS_kp hXS (fun z h1 h2 h3 => hk z h1 (fun (hA : mA bm z) => zap hbm hA.1 h3)), MS_of h9 n_f_code (hI.1 12) (hI.1 13) (hI.1 14) (hI.2 2) (hI.2 3) (hI.2 4) (hI.2 6) (hI.1 16) (hI.2 7) (hI.2 8) (hI.2 12) (hI.2 13) (hI.2 14) (hI.1 21) (hI.2 16), lE_kp hE (fun z h1 h2 => hk z h1 (fun (hA : mA bm z) => absurd hA.2 (Nat.not_lt.mpr h2))), hT, ⟨n_a_tape, n_a_size, (hMT.2.2.1), (hMT.2.2.2.1), (hMT.2.2.2.2.1), (hMT.2.2.2.2.2.1), (hMT.2.2.2.2.2.2.1), (hMT.2.2.2.2.2.2.2)⟩⟩ hS

set_option maxRecDepth 40000 in
set_option maxHeartbeats 4000000 in
theorem gm_fits {p : Program} {l : Launch} {e : Env} {s : State} {m : MethodId} {below : List Frame} {meth : Method} {c : Code} {E : zE} {G : zG} {b L bx bm cells slots : Nat} {xs : Nat → Int32} {mi : Nat → Option Nat} {ko : Option Nat} {T : TT} {M : Nat → Nat → Int32} {I : Nat → TT} {H : Heap} {locs : List Loc} {ls : Array Slot} {pc idx : Nat} {a1 a2 a3 : Int32} (rest : List Value) (hcs : cells ≤ room_1.cells ∧ slots ≤ room_1.slots) (C0 : lw_At p s m meth c b L xs) (hbx : s.heap.size ≤ bx) (hbm : bx + 93 ≤ bm) (hK : zK E s) (hO : zO s ∧ zZ G (fun q => s.heap.size ≤ q) s s.heap) (hG : GG E bx bm mi ko T M I H) (hS : va_S (fun q => s.heap.size ≤ q) s.heap H locs) (hls : ls.size = 4) (hW : (rest.map fun v => v.category).sum ≤ 8) (hlk : Cond.methodLink RL idx yX11_fits ∈ zb) (hd : decode cL_law pc = .ok (.invokevirtual idx, 3))
    (kk : ∀ (r : Int32) (M' : Nat → Nat → Int32) (H : Heap) (locs : List Loc), (M' = M) → GG E bx bm mi ko T M' I H → va_S (fun q => s.heap.size ≤ q) s.heap H locs → W p l e room_1 s m #[Value.ref b] below meth c H locs cells slots (lw_Z below #[Value.ref b] s) (F0 m (pc + 3) ls (.int r :: rest))) : W p l e room_1 s m #[Value.ref b] below meth c H locs cells slots (lw_Z below #[Value.ref b] s) (F0 m pc ls (.int a3 :: .int a2 :: .int a1 :: .ref bm :: rest)) := by
  obtain ⟨hx, hb, hr, hml, hown, hts, hX0, hbl, hlocks, hgv⟩ := id C0
  have zc : zC p s m #[Value.ref b] meth c cL_law 4 RL ret := ⟨hx, hb, hml, hown, fun w hw => hts w (zb_in hw), hr, hlocks⟩
  obtain ⟨hXS, hMS, hE, hT, hMT⟩ := hG
  obtain ⟨S, V, f_word, a_rest, hI, hM⟩ := id hMS
  refine zVx_i [.int a1, .int a2, .int a3] rest zc ky_X11_fits kz_X11_fits hlk (c_m_fits l (post := (fun r f_code f_land f_huts f_singers a_run f_sight a_runs => (iv 0 0 f_code) ∧ (iv 0 1 f_land) ∧ (iv 0 9 f_huts) ∧ (iv 0 6 f_singers) ∧ (∀ j, iv 0 1000000 (a_run j)) ∧ (∀ j, iv 0 1000000 (a_runs j)))) (s_m_fits_0 (hI.1 0) (hMT.2.2.1) (hMT.2.2.2.1) (hMT.2.2.2.2.2.1) (hI.1 12) (hI.1 13) (hI.1 14) (hI.2 7) (hI.2 14) (fun _ _ _ _ _ _ _ _ _ h1 h2 h3 h4 h5 h6 => ⟨h1, h2, h3, h4, h5, h6⟩))) (mPreV0 hK hM) hS (fun q (h : mA bm q) => Nat.le_trans hbx (Nat.le_trans (Nat.le_trans (Nat.le_add_right bx 93) hbm) h.1)) rfl rfl hls hW ⟨rfl, rfl⟩ ⟨(Nat.le_of_ble_eq_true rfl), (Nat.le_of_ble_eq_true rfl)⟩ hcs hd (fun r u H1 locs1 hw h9 hk hS => ?_)
  obtain ⟨f_code, f_land, f_huts, f_singers, a_run, f_sight, a_runs⟩ := u
  obtain ⟨n_f_code, n_f_land, n_f_huts, n_f_singers, n_a_run, n_a_runs⟩ := hw
  exact kk r _ _ _ rfl ⟨XS_kp hXS (fun z h1 h2 h3 => hk z h1 (fun (hA : mA bm z) => zap hbm hA.1 h3)), MS_of1 (M := M) h9 n_f_code n_f_land n_f_huts n_f_singers (hI.2 2) (hI.2 3) (hI.2 4) (hI.2 6) (hI.1 16) n_a_run (hI.2 8) (hI.2 12) (hI.2 13) n_a_runs (hI.1 21) (hI.2 16), lE_kp hE (fun z h1 h2 => hk z h1 (fun (hA : mA bm z) => absurd hA.2 (Nat.not_lt.mpr h2))), hT, hMT⟩ hS

set_option maxRecDepth 40000 in
set_option maxHeartbeats 4000000 in
theorem gm_flood {p : Program} {l : Launch} {e : Env} {s : State} {m : MethodId} {below : List Frame} {meth : Method} {c : Code} {E : zE} {G : zG} {b L bx bm cells slots : Nat} {xs : Nat → Int32} {mi : Nat → Option Nat} {ko : Option Nat} {T : TT} {M : Nat → Nat → Int32} {I : Nat → TT} {H : Heap} {locs : List Loc} {ls : Array Slot} {pc idx : Nat} {a1 a2 a3 a4 : Int32} (rest : List Value) (hcs : cells ≤ room_1.cells ∧ slots ≤ room_1.slots) (C0 : lw_At p s m meth c b L xs) (hbx : s.heap.size ≤ bx) (hbm : bx + 93 ≤ bm) (hK : zK E s) (hO : zO s ∧ zZ G (fun q => s.heap.size ≤ q) s s.heap) (hG : GG E bx bm mi ko T M I H) (hS : va_S (fun q => s.heap.size ≤ q) s.heap H locs) (hls : ls.size = 4) (hW : (rest.map fun v => v.category).sum ≤ 8) (hlk : Cond.methodLink RL idx yX11_flood ∈ zb) (hd : decode cL_law pc = .ok (.invokevirtual idx, 3))
    (kk : ∀ (r : Int32) (M' : Nat → Nat → Int32) (H : Heap) (locs : List Loc), (M' = M) → GG E bx bm mi ko T M' I H → va_S (fun q => s.heap.size ≤ q) s.heap H locs → W p l e room_1 s m #[Value.ref b] below meth c H locs cells slots (lw_Z below #[Value.ref b] s) (F0 m (pc + 3) ls (.int r :: rest))) : W p l e room_1 s m #[Value.ref b] below meth c H locs cells slots (lw_Z below #[Value.ref b] s) (F0 m pc ls (.int a4 :: .int a3 :: .int a2 :: .int a1 :: .ref bm :: rest)) := by
  obtain ⟨hx, hb, hr, hml, hown, hts, hX0, hbl, hlocks, hgv⟩ := id C0
  have zc : zC p s m #[Value.ref b] meth c cL_law 4 RL ret := ⟨hx, hb, hml, hown, fun w hw => hts w (zb_in hw), hr, hlocks⟩
  obtain ⟨hXS, hMS, hE, hT, hMT⟩ := hG
  obtain ⟨S, V, f_word, a_rest, hI, hM⟩ := id hMS
  refine zVx_i [.int a1, .int a2, .int a3, .int a4] rest zc ky_X11_flood kz_X11_flood hlk (c_m_flood l (post := (fun r f_code f_land f_huts f_singers a_run => (iv 0 0 f_code) ∧ (iv 0 1 f_land) ∧ (iv 0 9 f_huts) ∧ (iv 0 6 f_singers) ∧ (∀ j, iv 0 1000000 (a_run j)))) (s_m_flood_0 (hI.1 0) (hMT.2.2.1) (hMT.2.2.2.1) (hI.1 12) (hI.1 13) (hI.1 14) (hI.2 7) (fun _ _ _ _ _ _ h0 h1 h2 h3 h4 => ⟨h0, h1, h2, h3, h4⟩))) (mPreV0 hK hM) hS (fun q (h : mA bm q) => Nat.le_trans hbx (Nat.le_trans (Nat.le_trans (Nat.le_add_right bx 93) hbm) h.1)) rfl rfl hls hW ⟨rfl, rfl⟩ ⟨(Nat.le_of_ble_eq_true rfl), (Nat.le_of_ble_eq_true rfl)⟩ hcs hd (fun r u H1 locs1 hw h9 hk hS => ?_)
  obtain ⟨f_code, f_land, f_huts, f_singers, a_run⟩ := u
  obtain ⟨n_f_code, n_f_land, n_f_huts, n_f_singers, n_a_run⟩ := hw
  exact kk r _ _ _ rfl ⟨XS_kp hXS (fun z h1 h2 h3 => hk z h1 (fun (hA : mA bm z) => zap hbm hA.1 h3)), MS_of1 (M := M) h9 n_f_code n_f_land n_f_huts n_f_singers (hI.2 2) (hI.2 3) (hI.2 4) (hI.2 6) (hI.1 16) n_a_run (hI.2 8) (hI.2 12) (hI.2 13) (hI.2 14) (hI.1 21) (hI.2 16), lE_kp hE (fun z h1 h2 => hk z h1 (fun (hA : mA bm z) => absurd hA.2 (Nat.not_lt.mpr h2))), hT, hMT⟩ hS

set_option maxRecDepth 40000 in
set_option maxHeartbeats 4000000 in
theorem gm_image {p : Program} {l : Launch} {e : Env} {s : State} {m : MethodId} {below : List Frame} {meth : Method} {c : Code} {E : zE} {G : zG} {b L bx bm cells slots : Nat} {xs : Nat → Int32} {mi : Nat → Option Nat} {ko : Option Nat} {T : TT} {M : Nat → Nat → Int32} {I : Nat → TT} {H : Heap} {locs : List Loc} {ls : Array Slot} {pc idx : Nat} {a1 : Int32} (rest : List Value) (hcs : cells ≤ room_1.cells ∧ slots ≤ room_1.slots) (C0 : lw_At p s m meth c b L xs) (hbx : s.heap.size ≤ bx) (hbm : bx + 93 ≤ bm) (hK : zK E s) (hO : zO s ∧ zZ G (fun q => s.heap.size ≤ q) s s.heap) (hG : GG E bx bm mi ko T M I H) (hS : va_S (fun q => s.heap.size ≤ q) s.heap H locs) (hls : ls.size = 4) (hW : (rest.map fun v => v.category).sum ≤ 8) (hlk : Cond.methodLink RL idx yX11_image ∈ zb) (hd : decode cL_law pc = .ok (.invokevirtual idx, 3))
    (kk : ∀ (r : Int32) (M' : Nat → Nat → Int32) (H : Heap) (locs : List Loc), (mIM M M' a1 r) → GG E bx bm mi ko T M' I H → va_S (fun q => s.heap.size ≤ q) s.heap H locs → W p l e room_1 s m #[Value.ref b] below meth c H locs cells slots (lw_Z below #[Value.ref b] s) (F0 m (pc + 3) ls (.int r :: rest))) : W p l e room_1 s m #[Value.ref b] below meth c H locs cells slots (lw_Z below #[Value.ref b] s) (F0 m pc ls (.int a1 :: .ref bm :: rest)) := by
  obtain ⟨hx, hb, hr, hml, hown, hts, hX0, hbl, hlocks, hgv⟩ := id C0
  have zc : zC p s m #[Value.ref b] meth c cL_law 4 RL ret := ⟨hx, hb, hml, hown, fun w hw => hts w (zb_in hw), hr, hlocks⟩
  obtain ⟨hXS, hMS, hE, hT, hMT⟩ := hG
  obtain ⟨S, V, f_word, a_rest, hI, hM⟩ := id hMS
  refine zVx_i [.int a1] rest zc ky_X11_image kz_X11_image hlk (c_m_image l (post := (fun r f_code a_tape a_size a_fault a_faultPlace a_many a_lands a_evenings a_sights a_choirs a_kept => (mIM M (mmk a_tape a_size a_fault a_faultPlace a_many a_lands a_evenings a_sights a_choirs a_kept) a1 r) ∧ (iv 0 0 f_code) ∧ (∀ j, iv (-128) 127 (a_tape j)) ∧ (∀ j, iv 0 600 (a_size j)) ∧ (∀ j, iv 0 2 (a_many j)) ∧ (mLand a_lands) ∧ (mEve a_evenings) ∧ (mSig a_sights) ∧ (mCho a_choirs) ∧ (∀ j, iv 0 1 (a_kept j)))) (cj_q_m_image_0 (post_1 := fun r f_code a_tape a_size a_fault a_faultPlace a_many a_lands a_evenings a_sights a_choirs a_kept => mIM M (mmk a_tape a_size a_fault a_faultPlace a_many a_lands a_evenings a_sights a_choirs a_kept) a1 r) (post_2 := (fun r f_code a_tape a_size a_fault a_faultPlace a_many a_lands a_evenings a_sights a_choirs a_kept => (iv 0 0 f_code) ∧ (∀ j, iv (-128) 127 (a_tape j)) ∧ (∀ j, iv 0 600 (a_size j)) ∧ (∀ j, iv 0 2 (a_many j)) ∧ (mLand a_lands) ∧ (mEve a_evenings) ∧ (mSig a_sights) ∧ (mCho a_choirs) ∧ (∀ j, iv 0 1 (a_kept j)))) (post_3 := (fun r f_code a_tape a_size a_fault a_faultPlace a_many a_lands a_evenings a_sights a_choirs a_kept => (mIM M (mmk a_tape a_size a_fault a_faultPlace a_many a_lands a_evenings a_sights a_choirs a_kept) a1 r) ∧ (iv 0 0 f_code) ∧ (∀ j, iv (-128) 127 (a_tape j)) ∧ (∀ j, iv 0 600 (a_size j)) ∧ (∀ j, iv 0 2 (a_many j)) ∧ (mLand a_lands) ∧ (mEve a_evenings) ∧ (mSig a_sights) ∧ (mCho a_choirs) ∧ (∀ j, iv 0 1 (a_kept j)))) (fun _ _ _ _ _ _ _ _ _ _ _ _ a b => ⟨a, b⟩) (e_m_image2 (M := M) (hMT.1) (fun _ _ _ _ _ _ _ _ _ _ _ h => h)) (e_m_image (hMT.1) (hMT.2.1) (hMT.2.2.1) (hMT.2.2.2.1) (hMT.2.2.2.2.1) (hMT.2.2.2.2.2.1) (hMT.2.2.2.2.2.2.1) (hMT.2.2.2.2.2.2.2) (fun _ => ⟨iv_lit (by decide), (hMT.1), (hMT.2.1), (hMT.2.2.1), (hMT.2.2.2.1), (hMT.2.2.2.2.1), (hMT.2.2.2.2.2.1), (hMT.2.2.2.2.2.2.1), (hMT.2.2.2.2.2.2.2)⟩) (fun _ _ _ t z fa fp mn l e2 s c kp _ _ _ _ g0 g1 g2 g3 g4 g5 g6 g7 => ⟨iv_lit (by decide), g0, g1, g2, g3, g4, g5, g6, g7⟩)))) (mPreV0 hK hM) hS (fun q (h : mA bm q) => Nat.le_trans hbx (Nat.le_trans (Nat.le_trans (Nat.le_add_right bx 93) hbm) h.1)) rfl rfl hls hW ⟨rfl, rfl⟩ ⟨(Nat.le_of_ble_eq_true rfl), (Nat.le_of_ble_eq_true rfl)⟩ hcs hd (fun r u H1 locs1 hw h9 hk hS => ?_)
  obtain ⟨f_code, a_tape, a_size, a_fault, a_faultPlace, a_many, a_lands, a_evenings, a_sights, a_choirs, a_kept⟩ := u
  obtain ⟨hrel, n_f_code, n_a_tape, n_a_size, n_a_many, n_a_lands, n_a_evenings, n_a_sights, n_a_choirs, n_a_kept⟩ := hw
  exact kk r (mmk a_tape a_size a_fault a_faultPlace a_many a_lands a_evenings a_sights a_choirs a_kept) _ _ hrel ⟨XS_kp hXS (fun z h1 h2 h3 => hk z h1 (fun (hA : mA bm z) => zap hbm hA.1 h3)), MS_of h9 n_f_code (hI.1 12) (hI.1 13) (hI.1 14) (hI.2 2) (hI.2 3) (hI.2 4) (hI.2 6) (hI.1 16) (hI.2 7) (hI.2 8) (hI.2 12) (hI.2 13) (hI.2 14) (hI.1 21) (hI.2 16), lE_kp hE (fun z h1 h2 => hk z h1 (fun (hA : mA bm z) => absurd hA.2 (Nat.not_lt.mpr h2))), hT, ⟨n_a_tape, n_a_size, n_a_many, n_a_lands, n_a_evenings, n_a_sights, n_a_choirs, n_a_kept⟩⟩ hS
end
section
set_option maxRecDepth 40000 in
set_option maxHeartbeats 4000000 in
theorem gm_join {p : Program} {l : Launch} {e : Env} {s : State} {m : MethodId} {below : List Frame} {meth : Method} {c : Code} {E : zE} {G : zG} {b L bx bm cells slots : Nat} {xs : Nat → Int32} {mi : Nat → Option Nat} {ko : Option Nat} {T : TT} {M : Nat → Nat → Int32} {I : Nat → TT} {H : Heap} {locs : List Loc} {ls : Array Slot} {pc idx : Nat} {a1 a2 a3 a4 : Int32} (rest : List Value) (hcs : cells ≤ room_1.cells ∧ slots ≤ room_1.slots) (C0 : lw_At p s m meth c b L xs) (hbx : s.heap.size ≤ bx) (hbm : bx + 93 ≤ bm) (hK : zK E s) (hO : zO s ∧ zZ G (fun q => s.heap.size ≤ q) s s.heap) (hG : GG E bx bm mi ko T M I H) (hS : va_S (fun q => s.heap.size ≤ q) s.heap H locs) (hls : ls.size = 4) (hW : (rest.map fun v => v.category).sum ≤ 8) (hlk : Cond.methodLink RL idx yX11_join ∈ zb) (hd : decode cL_law pc = .ok (.invokevirtual idx, 3))
    (kk : ∀ (r : Int32) (M' : Nat → Nat → Int32) (H : Heap) (locs : List Loc), (M' = M) → GG E bx bm mi ko T M' I H → va_S (fun q => s.heap.size ≤ q) s.heap H locs → W p l e room_1 s m #[Value.ref b] below meth c H locs cells slots (lw_Z below #[Value.ref b] s) (F0 m (pc + 3) ls (.int r :: rest))) : W p l e room_1 s m #[Value.ref b] below meth c H locs cells slots (lw_Z below #[Value.ref b] s) (F0 m pc ls (.int a4 :: .int a3 :: .int a2 :: .int a1 :: .ref bm :: rest)) := by
  obtain ⟨hx, hb, hr, hml, hown, hts, hX0, hbl, hlocks, hgv⟩ := id C0
  have zc : zC p s m #[Value.ref b] meth c cL_law 4 RL ret := ⟨hx, hb, hml, hown, fun w hw => hts w (zb_in hw), hr, hlocks⟩
  obtain ⟨hXS, hMS, hE, hT, hMT⟩ := hG
  obtain ⟨S, V, f_word, a_rest, hI, hM⟩ := id hMS
  refine zVx_i [.int a1, .int a2, .int a3, .int a4] rest zc ky_X11_join kz_X11_join hlk (c_m_join l (post := (fun r f_code f_land f_huts f_singers a_run a_other => (iv 0 0 f_code) ∧ (iv 0 1 f_land) ∧ (iv 0 9 f_huts) ∧ (iv 0 6 f_singers) ∧ (∀ j, iv 0 1000000 (a_run j)) ∧ (∀ j, iv 0 1000000 (a_other j)))) (s_m_join_0 (hI.1 0) (hMT.2.2.1) (hMT.2.2.2.1) (hI.1 12) (hI.1 13) (hI.1 14) (hI.2 7) (hI.2 16) (fun _ _ _ _ _ _ _ _ h1 h2 h3 h4 h5 h6 => ⟨h1, h2, h3, h4, h5, h6⟩))) (mPreV0 hK hM) hS (fun q (h : mA bm q) => Nat.le_trans hbx (Nat.le_trans (Nat.le_trans (Nat.le_add_right bx 93) hbm) h.1)) rfl rfl hls hW ⟨rfl, rfl⟩ ⟨(Nat.le_of_ble_eq_true rfl), (Nat.le_of_ble_eq_true rfl)⟩ hcs hd (fun r u H1 locs1 hw h9 hk hS => ?_)
  obtain ⟨f_code, f_land, f_huts, f_singers, a_run, a_other⟩ := u
  obtain ⟨n_f_code, n_f_land, n_f_huts, n_f_singers, n_a_run, n_a_other⟩ := hw
  exact kk r _ _ _ rfl ⟨XS_kp hXS (fun z h1 h2 h3 => hk z h1 (fun (hA : mA bm z) => zap hbm hA.1 h3)), MS_of1 (M := M) h9 n_f_code n_f_land n_f_huts n_f_singers (hI.2 2) (hI.2 3) (hI.2 4) (hI.2 6) (hI.1 16) n_a_run (hI.2 8) (hI.2 12) (hI.2 13) (hI.2 14) (hI.1 21) n_a_other, lE_kp hE (fun z h1 h2 => hk z h1 (fun (hA : mA bm z) => absurd hA.2 (Nat.not_lt.mpr h2))), hT, hMT⟩ hS

set_option maxRecDepth 40000 in
set_option maxHeartbeats 4000000 in
theorem gm_land {p : Program} {l : Launch} {e : Env} {s : State} {m : MethodId} {below : List Frame} {meth : Method} {c : Code} {E : zE} {G : zG} {b L bx bm cells slots : Nat} {xs : Nat → Int32} {mi : Nat → Option Nat} {ko : Option Nat} {T : TT} {M : Nat → Nat → Int32} {I : Nat → TT} {H : Heap} {locs : List Loc} {ls : Array Slot} {pc idx : Nat} {a1 a2 : Int32} (rest : List Value) (hcs : cells ≤ room_1.cells ∧ slots ≤ room_1.slots) (C0 : lw_At p s m meth c b L xs) (hbx : s.heap.size ≤ bx) (hbm : bx + 93 ≤ bm) (hK : zK E s) (hO : zO s ∧ zZ G (fun q => s.heap.size ≤ q) s s.heap) (hG : GG E bx bm mi ko T M I H) (hS : va_S (fun q => s.heap.size ≤ q) s.heap H locs) (hls : ls.size = 4) (hW : (rest.map fun v => v.category).sum ≤ 8) (hlk : Cond.methodLink RL idx yX11_land ∈ zb) (hd : decode cL_law pc = .ok (.invokevirtual idx, 3))
    (kk : ∀ (r : Int32) (M' : Nat → Nat → Int32) (H : Heap) (locs : List Loc), (M' = M) → GG E bx bm mi ko T M' I H → va_S (fun q => s.heap.size ≤ q) s.heap H locs → W p l e room_1 s m #[Value.ref b] below meth c H locs cells slots (lw_Z below #[Value.ref b] s) (F0 m (pc + 3) ls (.int r :: rest))) : W p l e room_1 s m #[Value.ref b] below meth c H locs cells slots (lw_Z below #[Value.ref b] s) (F0 m pc ls (.int a2 :: .int a1 :: .ref bm :: rest)) := by
  obtain ⟨hx, hb, hr, hml, hown, hts, hX0, hbl, hlocks, hgv⟩ := id C0
  have zc : zC p s m #[Value.ref b] meth c cL_law 4 RL ret := ⟨hx, hb, hml, hown, fun w hw => hts w (zb_in hw), hr, hlocks⟩
  obtain ⟨hXS, hMS, hE, hT, hMT⟩ := hG
  obtain ⟨S, V, f_word, a_rest, hI, hM⟩ := id hMS
  refine zVx_i [.int a1, .int a2] rest zc ky_X11_land kz_X11_land hlk (c_m_land l (post := (fun r f_code f_land f_huts f_singers => (iv 0 0 f_code) ∧ (iv 0 1 f_land) ∧ (iv 0 9 f_huts) ∧ (iv 0 6 f_singers))) (s_m_land_0 (hI.1 0) (hMT.2.2.1) (hMT.2.2.2.1) (hI.1 12) (hI.1 13) (hI.1 14) (fun _ _ _ _ _ _ h1 h2 h3 h4 => ⟨h1, h2, h3, h4⟩))) (mPreV0 hK hM) hS (fun q (h : mA bm q) => Nat.le_trans hbx (Nat.le_trans (Nat.le_trans (Nat.le_add_right bx 93) hbm) h.1)) rfl rfl hls hW ⟨rfl, rfl⟩ ⟨(Nat.le_of_ble_eq_true rfl), (Nat.le_of_ble_eq_true rfl)⟩ hcs hd (fun r u H1 locs1 hw h9 hk hS => ?_)
  obtain ⟨f_code, f_land, f_huts, f_singers⟩ := u
  obtain ⟨n_f_code, n_f_land, n_f_huts, n_f_singers⟩ := hw
  exact kk r _ _ _ rfl ⟨XS_kp hXS (fun z h1 h2 h3 => hk z h1 (fun (hA : mA bm z) => zap hbm hA.1 h3)), MS_of1 (M := M) h9 n_f_code n_f_land n_f_huts n_f_singers (hI.2 2) (hI.2 3) (hI.2 4) (hI.2 6) (hI.1 16) (hI.2 7) (hI.2 8) (hI.2 12) (hI.2 13) (hI.2 14) (hI.1 21) (hI.2 16), lE_kp hE (fun z h1 h2 => hk z h1 (fun (hA : mA bm z) => absurd hA.2 (Nat.not_lt.mpr h2))), hT, hMT⟩ hS

set_option maxRecDepth 40000 in
set_option maxHeartbeats 4000000 in
theorem gm_masses {p : Program} {l : Launch} {e : Env} {s : State} {m : MethodId} {below : List Frame} {meth : Method} {c : Code} {E : zE} {G : zG} {b L bx bm cells slots : Nat} {xs : Nat → Int32} {mi : Nat → Option Nat} {ko : Option Nat} {T : TT} {M : Nat → Nat → Int32} {I : Nat → TT} {H : Heap} {locs : List Loc} {ls : Array Slot} {pc idx : Nat} {a1 a2 a3 : Int32} (rest : List Value) (hcs : cells ≤ room_1.cells ∧ slots ≤ room_1.slots) (C0 : lw_At p s m meth c b L xs) (hbx : s.heap.size ≤ bx) (hbm : bx + 93 ≤ bm) (hK : zK E s) (hO : zO s ∧ zZ G (fun q => s.heap.size ≤ q) s s.heap) (hG : GG E bx bm mi ko T M I H) (hS : va_S (fun q => s.heap.size ≤ q) s.heap H locs) (hls : ls.size = 4) (hW : (rest.map fun v => v.category).sum ≤ 8) (hlk : Cond.methodLink RL idx yX11_masses ∈ zb) (hd : decode cL_law pc = .ok (.invokevirtual idx, 3))
    (kk : ∀ (r : Int32) (M' : Nat → Nat → Int32) (H : Heap) (locs : List Loc), (M' = M) → GG E bx bm mi ko T M' I H → va_S (fun q => s.heap.size ≤ q) s.heap H locs → W p l e room_1 s m #[Value.ref b] below meth c H locs cells slots (lw_Z below #[Value.ref b] s) (F0 m (pc + 3) ls (.int r :: rest))) : W p l e room_1 s m #[Value.ref b] below meth c H locs cells slots (lw_Z below #[Value.ref b] s) (F0 m pc ls (.int a3 :: .int a2 :: .int a1 :: .ref bm :: rest)) := by
  obtain ⟨hx, hb, hr, hml, hown, hts, hX0, hbl, hlocks, hgv⟩ := id C0
  have zc : zC p s m #[Value.ref b] meth c cL_law 4 RL ret := ⟨hx, hb, hml, hown, fun w hw => hts w (zb_in hw), hr, hlocks⟩
  obtain ⟨hXS, hMS, hE, hT, hMT⟩ := hG
  obtain ⟨S, V, f_word, a_rest, hI, hM⟩ := id hMS
  refine zVx_i [.int a1, .int a2, .int a3] rest zc ky_X11_masses kz_X11_masses hlk (c_m_masses l (post := (fun r f_code f_land f_huts f_singers a_covers a_far => (iv 0 0 f_code) ∧ (iv 0 1 f_land) ∧ (iv 0 9 f_huts) ∧ (iv 0 6 f_singers) ∧ (∀ j, iv 0 511 (a_covers j)) ∧ (∀ j, iv 0 1000000 (a_far j)))) (s_m_masses_0 (hI.1 0) (hMT.2.2.1) (hMT.2.2.2.1) (hI.1 12) (hI.1 13) (hI.1 14) (hI.2 8) (hI.2 13) (fun _ _ _ _ _ _ _ h0 h1 h2 h3 h4 h5 => ⟨h0, h1, h2, h3, h4, h5⟩))) (mPreV0 hK hM) hS (fun q (h : mA bm q) => Nat.le_trans hbx (Nat.le_trans (Nat.le_trans (Nat.le_add_right bx 93) hbm) h.1)) rfl rfl hls hW ⟨rfl, rfl⟩ ⟨(Nat.le_of_ble_eq_true rfl), (Nat.le_of_ble_eq_true rfl)⟩ hcs hd (fun r u H1 locs1 hw h9 hk hS => ?_)
  obtain ⟨f_code, f_land, f_huts, f_singers, a_covers, a_far⟩ := u
  obtain ⟨n_f_code, n_f_land, n_f_huts, n_f_singers, n_a_covers, n_a_far⟩ := hw
  exact kk r _ _ _ rfl ⟨XS_kp hXS (fun z h1 h2 h3 => hk z h1 (fun (hA : mA bm z) => zap hbm hA.1 h3)), MS_of1 (M := M) h9 n_f_code n_f_land n_f_huts n_f_singers (hI.2 2) (hI.2 3) (hI.2 4) (hI.2 6) (hI.1 16) (hI.2 7) n_a_covers (hI.2 12) n_a_far (hI.2 14) (hI.1 21) (hI.2 16), lE_kp hE (fun z h1 h2 => hk z h1 (fun (hA : mA bm z) => absurd hA.2 (Nat.not_lt.mpr h2))), hT, hMT⟩ hS

set_option maxRecDepth 40000 in
set_option maxHeartbeats 4000000 in
theorem gm_meet {p : Program} {l : Launch} {e : Env} {s : State} {m : MethodId} {below : List Frame} {meth : Method} {c : Code} {E : zE} {G : zG} {b L bx bm cells slots : Nat} {xs : Nat → Int32} {mi : Nat → Option Nat} {ko : Option Nat} {T : TT} {M : Nat → Nat → Int32} {I : Nat → TT} {H : Heap} {locs : List Loc} {ls : Array Slot} {pc idx : Nat} {a1 a2 a3 a4 : Int32} (rest : List Value) (hcs : cells ≤ room_1.cells ∧ slots ≤ room_1.slots) (C0 : lw_At p s m meth c b L xs) (hbx : s.heap.size ≤ bx) (hbm : bx + 93 ≤ bm) (hK : zK E s) (hO : zO s ∧ zZ G (fun q => s.heap.size ≤ q) s s.heap) (hG : GG E bx bm mi ko T M I H) (hS : va_S (fun q => s.heap.size ≤ q) s.heap H locs) (hls : ls.size = 4) (hW : (rest.map fun v => v.category).sum ≤ 8) (hlk : Cond.methodLink RL idx yX11_meet ∈ zb) (hd : decode cL_law pc = .ok (.invokevirtual idx, 3))
    (kk : ∀ (r : Int32) (M' : Nat → Nat → Int32) (H : Heap) (locs : List Loc), (M' = M) → GG E bx bm mi ko T M' I H → va_S (fun q => s.heap.size ≤ q) s.heap H locs → W p l e room_1 s m #[Value.ref b] below meth c H locs cells slots (lw_Z below #[Value.ref b] s) (F0 m (pc + 3) ls (.int r :: rest))) : W p l e room_1 s m #[Value.ref b] below meth c H locs cells slots (lw_Z below #[Value.ref b] s) (F0 m pc ls (.int a4 :: .int a3 :: .int a2 :: .int a1 :: .ref bm :: rest)) := by
  obtain ⟨hx, hb, hr, hml, hown, hts, hX0, hbl, hlocks, hgv⟩ := id C0
  have zc : zC p s m #[Value.ref b] meth c cL_law 4 RL ret := ⟨hx, hb, hml, hown, fun w hw => hts w (zb_in hw), hr, hlocks⟩
  obtain ⟨hXS, hMS, hE, hT, hMT⟩ := hG
  obtain ⟨S, V, f_word, a_rest, hI, hM⟩ := id hMS
  refine zVx_i [.int a1, .int a2, .int a3, .int a4] rest zc ky_X11_meet kz_X11_meet hlk (c_m_meet l (post := (fun r f_code f_land f_huts f_singers a_far => (iv 0 0 f_code) ∧ (iv 0 1 f_land) ∧ (iv 0 9 f_huts) ∧ (iv 0 6 f_singers) ∧ (∀ j, iv 0 1000000 (a_far j)))) (s_m_meet_0 (hI.1 0) (hMT.2.2.1) (hMT.2.2.2.1) (hI.1 12) (hI.1 13) (hI.1 14) (hI.2 13) (fun _ _ _ _ _ _ _ h1 h2 h3 h4 h5 => ⟨h1, h2, h3, h4, h5⟩))) (mPreV0 hK hM) hS (fun q (h : mA bm q) => Nat.le_trans hbx (Nat.le_trans (Nat.le_trans (Nat.le_add_right bx 93) hbm) h.1)) rfl rfl hls hW ⟨rfl, rfl⟩ ⟨(Nat.le_of_ble_eq_true rfl), (Nat.le_of_ble_eq_true rfl)⟩ hcs hd (fun r u H1 locs1 hw h9 hk hS => ?_)
  obtain ⟨f_code, f_land, f_huts, f_singers, a_far⟩ := u
  obtain ⟨n_f_code, n_f_land, n_f_huts, n_f_singers, n_a_far⟩ := hw
  exact kk r _ _ _ rfl ⟨XS_kp hXS (fun z h1 h2 h3 => hk z h1 (fun (hA : mA bm z) => zap hbm hA.1 h3)), MS_of1 (M := M) h9 n_f_code n_f_land n_f_huts n_f_singers (hI.2 2) (hI.2 3) (hI.2 4) (hI.2 6) (hI.1 16) (hI.2 7) (hI.2 8) (hI.2 12) n_a_far (hI.2 14) (hI.1 21) (hI.2 16), lE_kp hE (fun z h1 h2 => hk z h1 (fun (hA : mA bm z) => absurd hA.2 (Nat.not_lt.mpr h2))), hT, hMT⟩ hS

set_option maxRecDepth 40000 in
set_option maxHeartbeats 4000000 in
theorem gm_mutes {p : Program} {l : Launch} {e : Env} {s : State} {m : MethodId} {below : List Frame} {meth : Method} {c : Code} {E : zE} {G : zG} {b L bx bm cells slots : Nat} {xs : Nat → Int32} {mi : Nat → Option Nat} {ko : Option Nat} {T : TT} {M : Nat → Nat → Int32} {I : Nat → TT} {H : Heap} {locs : List Loc} {ls : Array Slot} {pc idx : Nat} {a1 a2 a3 : Int32} (rest : List Value) (hcs : cells ≤ room_1.cells ∧ slots ≤ room_1.slots) (C0 : lw_At p s m meth c b L xs) (hbx : s.heap.size ≤ bx) (hbm : bx + 93 ≤ bm) (hK : zK E s) (hO : zO s ∧ zZ G (fun q => s.heap.size ≤ q) s s.heap) (hG : GG E bx bm mi ko T M I H) (hS : va_S (fun q => s.heap.size ≤ q) s.heap H locs) (hls : ls.size = 4) (hW : (rest.map fun v => v.category).sum ≤ 8) (hlk : Cond.methodLink RL idx yX11_mutes ∈ zb) (hd : decode cL_law pc = .ok (.invokevirtual idx, 3))
    (kk : ∀ (r : Int32) (M' : Nat → Nat → Int32) (H : Heap) (locs : List Loc), (M' = M) → GG E bx bm mi ko T M' I H → va_S (fun q => s.heap.size ≤ q) s.heap H locs → W p l e room_1 s m #[Value.ref b] below meth c H locs cells slots (lw_Z below #[Value.ref b] s) (F0 m (pc + 3) ls (.int r :: rest))) : W p l e room_1 s m #[Value.ref b] below meth c H locs cells slots (lw_Z below #[Value.ref b] s) (F0 m pc ls (.int a3 :: .int a2 :: .int a1 :: .ref bm :: rest)) := by
  obtain ⟨hx, hb, hr, hml, hown, hts, hX0, hbl, hlocks, hgv⟩ := id C0
  have zc : zC p s m #[Value.ref b] meth c cL_law 4 RL ret := ⟨hx, hb, hml, hown, fun w hw => hts w (zb_in hw), hr, hlocks⟩
  obtain ⟨hXS, hMS, hE, hT, hMT⟩ := hG
  obtain ⟨S, V, f_word, a_rest, hI, hM⟩ := id hMS
  refine zVx_i [.int a1, .int a2, .int a3] rest zc ky_X11_mutes kz_X11_mutes hlk (c_m_mutes l (post := (fun r f_code f_land f_huts f_singers a_run => (iv 0 0 f_code) ∧ (iv 0 1 f_land) ∧ (iv 0 9 f_huts) ∧ (iv 0 6 f_singers) ∧ (∀ j, iv 0 1000000 (a_run j)))) (s_m_mutes_0 (hI.1 0) (hMT.2.2.1) (hMT.2.2.2.1) (hI.1 12) (hI.1 13) (hI.1 14) (hI.2 7) (fun _ _ _ _ _ _ h0 h1 h2 h3 h4 => ⟨h0, h1, h2, h3, h4⟩))) (mPreV0 hK hM) hS (fun q (h : mA bm q) => Nat.le_trans hbx (Nat.le_trans (Nat.le_trans (Nat.le_add_right bx 93) hbm) h.1)) rfl rfl hls hW ⟨rfl, rfl⟩ ⟨(Nat.le_of_ble_eq_true rfl), (Nat.le_of_ble_eq_true rfl)⟩ hcs hd (fun r u H1 locs1 hw h9 hk hS => ?_)
  obtain ⟨f_code, f_land, f_huts, f_singers, a_run⟩ := u
  obtain ⟨n_f_code, n_f_land, n_f_huts, n_f_singers, n_a_run⟩ := hw
  exact kk r _ _ _ rfl ⟨XS_kp hXS (fun z h1 h2 h3 => hk z h1 (fun (hA : mA bm z) => zap hbm hA.1 h3)), MS_of1 (M := M) h9 n_f_code n_f_land n_f_huts n_f_singers (hI.2 2) (hI.2 3) (hI.2 4) (hI.2 6) (hI.1 16) n_a_run (hI.2 8) (hI.2 12) (hI.2 13) (hI.2 14) (hI.1 21) (hI.2 16), lE_kp hE (fun z h1 h2 => hk z h1 (fun (hA : mA bm z) => absurd hA.2 (Nat.not_lt.mpr h2))), hT, hMT⟩ hS

set_option maxRecDepth 40000 in
set_option maxHeartbeats 4000000 in
theorem gm_odds {p : Program} {l : Launch} {e : Env} {s : State} {m : MethodId} {below : List Frame} {meth : Method} {c : Code} {E : zE} {G : zG} {b L bx bm cells slots : Nat} {xs : Nat → Int32} {mi : Nat → Option Nat} {ko : Option Nat} {T : TT} {M : Nat → Nat → Int32} {I : Nat → TT} {H : Heap} {locs : List Loc} {ls : Array Slot} {pc idx : Nat} {a1 a2 a3 : Int32} (rest : List Value) (hcs : cells ≤ room_1.cells ∧ slots ≤ room_1.slots) (C0 : lw_At p s m meth c b L xs) (hbx : s.heap.size ≤ bx) (hbm : bx + 93 ≤ bm) (hK : zK E s) (hO : zO s ∧ zZ G (fun q => s.heap.size ≤ q) s s.heap) (hG : GG E bx bm mi ko T M I H) (hS : va_S (fun q => s.heap.size ≤ q) s.heap H locs) (hls : ls.size = 4) (hW : (rest.map fun v => v.category).sum ≤ 8) (hlk : Cond.methodLink RL idx yX11_odds ∈ zb) (hd : decode cL_law pc = .ok (.invokevirtual idx, 3))
    (kk : ∀ (r : Int64) (M' : Nat → Nat → Int32) (H : Heap) (locs : List Loc), (M' = M) → GG E bx bm mi ko T M' I H → va_S (fun q => s.heap.size ≤ q) s.heap H locs → W p l e room_1 s m #[Value.ref b] below meth c H locs cells slots (lw_Z below #[Value.ref b] s) (F0 m (pc + 3) ls (.long r :: rest))) : W p l e room_1 s m #[Value.ref b] below meth c H locs cells slots (lw_Z below #[Value.ref b] s) (F0 m pc ls (.int a3 :: .int a2 :: .int a1 :: .ref bm :: rest)) := by
  obtain ⟨hx, hb, hr, hml, hown, hts, hX0, hbl, hlocks, hgv⟩ := id C0
  have zc : zC p s m #[Value.ref b] meth c cL_law 4 RL ret := ⟨hx, hb, hml, hown, fun w hw => hts w (zb_in hw), hr, hlocks⟩
  obtain ⟨hXS, hMS, hE, hT, hMT⟩ := hG
  obtain ⟨S, V, f_word, a_rest, hI, hM⟩ := id hMS
  refine zVx_l [.int a1, .int a2, .int a3] rest zc ky_X11_odds kz_X11_odds hlk (c_m_odds l (post := (fun r f_code f_land f_huts f_singers f_evening a_at a_knows a_climbed a_snow a_level f_begun f_minute f_avalanches => (iv 0 0 f_code) ∧ (iv 0 1 f_land) ∧ (iv 0 9 f_huts) ∧ (iv 0 6 f_singers) ∧ (∀ j, iv 0 8 (a_at j)) ∧ (∀ j, iv 0 31 (a_knows j)) ∧ (∀ j, iv 0 1 (a_climbed j)) ∧ (∀ j, iv (-9) 108 (a_level j)) ∧ (iv 0 31 f_begun))) (s_m_odds_0 (hI.1 0) (hMT.2.2.1) (hMT.2.2.2.1) (hMT.2.2.2.2.1) (hI.1 12) (hI.1 13) (hI.1 14) (hI.2 2) (hI.2 3) (hI.2 4) (hI.2 6) (hI.1 16) (fun _ _ _ _ _ _ _ _ _ _ _ _ _ _ h0 h1 h2 h3 h4 h5 h6 h7 h8 => ⟨h0, h1, h2, h3, h4, h5, h6, h7, h8⟩))) (mPreV0 hK hM) hS (fun q (h : mA bm q) => Nat.le_trans hbx (Nat.le_trans (Nat.le_trans (Nat.le_add_right bx 93) hbm) h.1)) rfl rfl hls hW ⟨rfl, rfl⟩ ⟨(Nat.le_of_ble_eq_true rfl), (Nat.le_of_ble_eq_true rfl)⟩ hcs hd (fun r u H1 locs1 hw h9 hk hS => ?_)
  obtain ⟨f_code, f_land, f_huts, f_singers, f_evening, a_at, a_knows, a_climbed, a_snow, a_level, f_begun, f_minute, f_avalanches⟩ := u
  obtain ⟨n_f_code, n_f_land, n_f_huts, n_f_singers, n_a_at, n_a_knows, n_a_climbed, n_a_level, n_f_begun⟩ := hw
  exact kk r _ _ _ rfl ⟨XS_kp hXS (fun z h1 h2 h3 => hk z h1 (fun (hA : mA bm z) => zap hbm hA.1 h3)), MS_of1 (M := M) h9 n_f_code n_f_land n_f_huts n_f_singers n_a_at n_a_knows n_a_climbed n_a_level n_f_begun (hI.2 7) (hI.2 8) (hI.2 12) (hI.2 13) (hI.2 14) (hI.1 21) (hI.2 16), lE_kp hE (fun z h1 h2 => hk z h1 (fun (hA : mA bm z) => absurd hA.2 (Nat.not_lt.mpr h2))), hT, hMT⟩ hS

set_option maxRecDepth 40000 in
set_option maxHeartbeats 4000000 in
theorem gm_order {p : Program} {l : Launch} {e : Env} {s : State} {m : MethodId} {below : List Frame} {meth : Method} {c : Code} {E : zE} {G : zG} {b L bx bm cells slots : Nat} {xs : Nat → Int32} {mi : Nat → Option Nat} {ko : Option Nat} {T : TT} {M : Nat → Nat → Int32} {I : Nat → TT} {H : Heap} {locs : List Loc} {ls : Array Slot} {pc idx : Nat} {a1 a2 : Int32} (rest : List Value) (hcs : cells ≤ room_1.cells ∧ slots ≤ room_1.slots) (C0 : lw_At p s m meth c b L xs) (hbx : s.heap.size ≤ bx) (hbm : bx + 93 ≤ bm) (hK : zK E s) (hO : zO s ∧ zZ G (fun q => s.heap.size ≤ q) s s.heap) (hG : GG E bx bm mi ko T M I H) (hS : va_S (fun q => s.heap.size ≤ q) s.heap H locs) (hls : ls.size = 4) (hW : (rest.map fun v => v.category).sum ≤ 8) (hlk : Cond.methodLink RL idx yX11_order ∈ zb) (hd : decode cL_law pc = .ok (.invokevirtual idx, 3))
    (kk : ∀ (r : Int32) (M' : Nat → Nat → Int32) (H : Heap) (locs : List Loc), (M' = M) → GG E bx bm mi ko T M' I H → va_S (fun q => s.heap.size ≤ q) s.heap H locs → W p l e room_1 s m #[Value.ref b] below meth c H locs cells slots (lw_Z below #[Value.ref b] s) (F0 m (pc + 3) ls (.int r :: rest))) : W p l e room_1 s m #[Value.ref b] below meth c H locs cells slots (lw_Z below #[Value.ref b] s) (F0 m pc ls (.int a2 :: .int a1 :: .ref bm :: rest)) := by
  obtain ⟨hx, hb, hr, hml, hown, hts, hX0, hbl, hlocks, hgv⟩ := id C0
  have zc : zC p s m #[Value.ref b] meth c cL_law 4 RL ret := ⟨hx, hb, hml, hown, fun w hw => hts w (zb_in hw), hr, hlocks⟩
  obtain ⟨hXS, hMS, hE, hT, hMT⟩ := hG
  obtain ⟨S, V, f_word, a_rest, hI, hM⟩ := id hMS
  refine zVx_i [.int a1, .int a2] rest zc ky_X11_order kz_X11_order hlk (c_m_order l (post := (fun r f_code f_choir f_voices a_rest => (iv 0 0 f_code) ∧ (iv 0 9 f_voices))) (s_m_order_0 (hI.1 0) (hMT.2.2.1) (hMT.2.2.2.2.2.2.1) (hI.1 21) (fun _ _ _ _ _ h0 h1 => ⟨h0, h1⟩))) (mPreV0 hK hM) hS (fun q (h : mA bm q) => Nat.le_trans hbx (Nat.le_trans (Nat.le_trans (Nat.le_add_right bx 93) hbm) h.1)) rfl rfl hls hW ⟨rfl, rfl⟩ ⟨(Nat.le_of_ble_eq_true rfl), (Nat.le_of_ble_eq_true rfl)⟩ hcs hd (fun r u H1 locs1 hw h9 hk hS => ?_)
  obtain ⟨f_code, f_choir, f_voices, a_rest⟩ := u
  obtain ⟨n_f_code, n_f_voices⟩ := hw
  exact kk r _ _ _ rfl ⟨XS_kp hXS (fun z h1 h2 h3 => hk z h1 (fun (hA : mA bm z) => zap hbm hA.1 h3)), MS_of1 (M := M) h9 n_f_code (hI.1 12) (hI.1 13) (hI.1 14) (hI.2 2) (hI.2 3) (hI.2 4) (hI.2 6) (hI.1 16) (hI.2 7) (hI.2 8) (hI.2 12) (hI.2 13) (hI.2 14) n_f_voices (hI.2 16), lE_kp hE (fun z h1 h2 => hk z h1 (fun (hA : mA bm z) => absurd hA.2 (Nat.not_lt.mpr h2))), hT, hMT⟩ hS

set_option maxRecDepth 40000 in
set_option maxHeartbeats 4000000 in
theorem gm_orders {p : Program} {l : Launch} {e : Env} {s : State} {m : MethodId} {below : List Frame} {meth : Method} {c : Code} {E : zE} {G : zG} {b L bx bm cells slots : Nat} {xs : Nat → Int32} {mi : Nat → Option Nat} {ko : Option Nat} {T : TT} {M : Nat → Nat → Int32} {I : Nat → TT} {H : Heap} {locs : List Loc} {ls : Array Slot} {pc idx : Nat} {a1 : Int32} (rest : List Value) (hcs : cells ≤ room_1.cells ∧ slots ≤ room_1.slots) (C0 : lw_At p s m meth c b L xs) (hbx : s.heap.size ≤ bx) (hbm : bx + 93 ≤ bm) (hK : zK E s) (hO : zO s ∧ zZ G (fun q => s.heap.size ≤ q) s s.heap) (hG : GG E bx bm mi ko T M I H) (hS : va_S (fun q => s.heap.size ≤ q) s.heap H locs) (hls : ls.size = 4) (hW : (rest.map fun v => v.category).sum ≤ 8) (hlk : Cond.methodLink RL idx yX11_orders ∈ zb) (hd : decode cL_law pc = .ok (.invokevirtual idx, 3))
    (kk : ∀ (r : Int64) (M' : Nat → Nat → Int32) (H : Heap) (locs : List Loc), (M' = M) → GG E bx bm mi ko T M' I H → va_S (fun q => s.heap.size ≤ q) s.heap H locs → W p l e room_1 s m #[Value.ref b] below meth c H locs cells slots (lw_Z below #[Value.ref b] s) (F0 m (pc + 3) ls (.long r :: rest))) : W p l e room_1 s m #[Value.ref b] below meth c H locs cells slots (lw_Z below #[Value.ref b] s) (F0 m pc ls (.int a1 :: .ref bm :: rest)) := by
  obtain ⟨hx, hb, hr, hml, hown, hts, hX0, hbl, hlocks, hgv⟩ := id C0
  have zc : zC p s m #[Value.ref b] meth c cL_law 4 RL ret := ⟨hx, hb, hml, hown, fun w hw => hts w (zb_in hw), hr, hlocks⟩
  obtain ⟨hXS, hMS, hE, hT, hMT⟩ := hG
  obtain ⟨S, V, f_word, a_rest, hI, hM⟩ := id hMS
  refine zVx_l [.int a1] rest zc ky_X11_orders kz_X11_orders hlk (c_m_orders l (post := (fun r f_code f_choir f_voices a_rest => (iv 0 0 f_code) ∧ (iv 0 9 f_voices))) (s_m_orders_0 (hI.1 0) (hMT.2.2.1) (hMT.2.2.2.2.2.2.1) (hI.1 21) (fun _ _ _ _ _ h0 h1 => ⟨h0, h1⟩))) (mPreV0 hK hM) hS (fun q (h : mA bm q) => Nat.le_trans hbx (Nat.le_trans (Nat.le_trans (Nat.le_add_right bx 93) hbm) h.1)) rfl rfl hls hW ⟨rfl, rfl⟩ ⟨(Nat.le_of_ble_eq_true rfl), (Nat.le_of_ble_eq_true rfl)⟩ hcs hd (fun r u H1 locs1 hw h9 hk hS => ?_)
  obtain ⟨f_code, f_choir, f_voices, a_rest⟩ := u
  obtain ⟨n_f_code, n_f_voices⟩ := hw
  exact kk r _ _ _ rfl ⟨XS_kp hXS (fun z h1 h2 h3 => hk z h1 (fun (hA : mA bm z) => zap hbm hA.1 h3)), MS_of1 (M := M) h9 n_f_code (hI.1 12) (hI.1 13) (hI.1 14) (hI.2 2) (hI.2 3) (hI.2 4) (hI.2 6) (hI.1 16) (hI.2 7) (hI.2 8) (hI.2 12) (hI.2 13) (hI.2 14) n_f_voices (hI.2 16), lE_kp hE (fun z h1 h2 => hk z h1 (fun (hA : mA bm z) => absurd hA.2 (Nat.not_lt.mpr h2))), hT, hMT⟩ hS
end
section
set_option maxRecDepth 40000 in
set_option maxHeartbeats 4000000 in
theorem gm_psalm {p : Program} {l : Launch} {e : Env} {s : State} {m : MethodId} {below : List Frame} {meth : Method} {c : Code} {E : zE} {G : zG} {b L bx bm cells slots : Nat} {xs : Nat → Int32} {mi : Nat → Option Nat} {ko : Option Nat} {T : TT} {M : Nat → Nat → Int32} {I : Nat → TT} {H : Heap} {locs : List Loc} {ls : Array Slot} {pc idx : Nat} {a1 a2 a3 a4 : Int32} (rest : List Value) (hcs : cells ≤ room_1.cells ∧ slots ≤ room_1.slots) (C0 : lw_At p s m meth c b L xs) (hbx : s.heap.size ≤ bx) (hbm : bx + 93 ≤ bm) (hK : zK E s) (hO : zO s ∧ zZ G (fun q => s.heap.size ≤ q) s s.heap) (hG : GG E bx bm mi ko T M I H) (hS : va_S (fun q => s.heap.size ≤ q) s.heap H locs) (hls : ls.size = 4) (hW : (rest.map fun v => v.category).sum ≤ 8) (hlk : Cond.methodLink RL idx yX11_psalm ∈ zb) (hd : decode cL_law pc = .ok (.invokevirtual idx, 3))
    (kk : ∀ (r : Int32) (M' : Nat → Nat → Int32) (H : Heap) (locs : List Loc), (M' = M) → GG E bx bm mi ko T M' I H → va_S (fun q => s.heap.size ≤ q) s.heap H locs → W p l e room_1 s m #[Value.ref b] below meth c H locs cells slots (lw_Z below #[Value.ref b] s) (F0 m (pc + 3) ls (.int r :: rest))) : W p l e room_1 s m #[Value.ref b] below meth c H locs cells slots (lw_Z below #[Value.ref b] s) (F0 m pc ls (.int a4 :: .int a3 :: .int a2 :: .int a1 :: .ref bm :: rest)) := by
  obtain ⟨hx, hb, hr, hml, hown, hts, hX0, hbl, hlocks, hgv⟩ := id C0
  have zc : zC p s m #[Value.ref b] meth c cL_law 4 RL ret := ⟨hx, hb, hml, hown, fun w hw => hts w (zb_in hw), hr, hlocks⟩
  obtain ⟨hXS, hMS, hE, hT, hMT⟩ := hG
  obtain ⟨S, V, f_word, a_rest, hI, hM⟩ := id hMS
  refine zVx_i [.int a1, .int a2, .int a3, .int a4] rest zc ky_X11_psalm kz_X11_psalm hlk (c_m_psalm l (post := (fun r f_code f_land f_huts f_singers a_run => (iv 0 0 f_code) ∧ (iv 0 1 f_land) ∧ (iv 0 9 f_huts) ∧ (iv 0 6 f_singers) ∧ (∀ j, iv 0 1000000 (a_run j)))) (s_m_psalm_0 (hI.1 0) (hMT.2.2.1) (hMT.2.2.2.1) (hI.1 12) (hI.1 13) (hI.1 14) (hI.2 7) (fun _ _ _ _ _ _ _ h1 h2 h3 h4 h5 => ⟨h1, h2, h3, h4, h5⟩))) (mPreV0 hK hM) hS (fun q (h : mA bm q) => Nat.le_trans hbx (Nat.le_trans (Nat.le_trans (Nat.le_add_right bx 93) hbm) h.1)) rfl rfl hls hW ⟨rfl, rfl⟩ ⟨(Nat.le_of_ble_eq_true rfl), (Nat.le_of_ble_eq_true rfl)⟩ hcs hd (fun r u H1 locs1 hw h9 hk hS => ?_)
  obtain ⟨f_code, f_land, f_huts, f_singers, a_run⟩ := u
  obtain ⟨n_f_code, n_f_land, n_f_huts, n_f_singers, n_a_run⟩ := hw
  exact kk r _ _ _ rfl ⟨XS_kp hXS (fun z h1 h2 h3 => hk z h1 (fun (hA : mA bm z) => zap hbm hA.1 h3)), MS_of1 (M := M) h9 n_f_code n_f_land n_f_huts n_f_singers (hI.2 2) (hI.2 3) (hI.2 4) (hI.2 6) (hI.1 16) n_a_run (hI.2 8) (hI.2 12) (hI.2 13) (hI.2 14) (hI.1 21) (hI.2 16), lE_kp hE (fun z h1 h2 => hk z h1 (fun (hA : mA bm z) => absurd hA.2 (Nat.not_lt.mpr h2))), hT, hMT⟩ hS

set_option maxRecDepth 40000 in
set_option maxHeartbeats 4000000 in
theorem gm_routes {p : Program} {l : Launch} {e : Env} {s : State} {m : MethodId} {below : List Frame} {meth : Method} {c : Code} {E : zE} {G : zG} {b L bx bm cells slots : Nat} {xs : Nat → Int32} {mi : Nat → Option Nat} {ko : Option Nat} {T : TT} {M : Nat → Nat → Int32} {I : Nat → TT} {H : Heap} {locs : List Loc} {ls : Array Slot} {pc idx : Nat} {a1 a2 a3 a4 : Int32} (rest : List Value) (hcs : cells ≤ room_1.cells ∧ slots ≤ room_1.slots) (C0 : lw_At p s m meth c b L xs) (hbx : s.heap.size ≤ bx) (hbm : bx + 93 ≤ bm) (hK : zK E s) (hO : zO s ∧ zZ G (fun q => s.heap.size ≤ q) s s.heap) (hG : GG E bx bm mi ko T M I H) (hS : va_S (fun q => s.heap.size ≤ q) s.heap H locs) (hls : ls.size = 4) (hW : (rest.map fun v => v.category).sum ≤ 8) (hlk : Cond.methodLink RL idx yX11_routes ∈ zb) (hd : decode cL_law pc = .ok (.invokevirtual idx, 3))
    (kk : ∀ (r : Int32) (M' : Nat → Nat → Int32) (H : Heap) (locs : List Loc), (M' = M) → GG E bx bm mi ko T M' I H → va_S (fun q => s.heap.size ≤ q) s.heap H locs → W p l e room_1 s m #[Value.ref b] below meth c H locs cells slots (lw_Z below #[Value.ref b] s) (F0 m (pc + 3) ls (.int r :: rest))) : W p l e room_1 s m #[Value.ref b] below meth c H locs cells slots (lw_Z below #[Value.ref b] s) (F0 m pc ls (.int a4 :: .int a3 :: .int a2 :: .int a1 :: .ref bm :: rest)) := by
  obtain ⟨hx, hb, hr, hml, hown, hts, hX0, hbl, hlocks, hgv⟩ := id C0
  have zc : zC p s m #[Value.ref b] meth c cL_law 4 RL ret := ⟨hx, hb, hml, hown, fun w hw => hts w (zb_in hw), hr, hlocks⟩
  obtain ⟨hXS, hMS, hE, hT, hMT⟩ := hG
  obtain ⟨S, V, f_word, a_rest, hI, hM⟩ := id hMS
  refine zVx_i [.int a1, .int a2, .int a3, .int a4] rest zc ky_X11_routes kz_X11_routes hlk (c_m_routes l (post := (fun r f_code f_land f_huts f_singers a_routes a_longest a_steep a_laid => (iv 0 0 f_code) ∧ (iv 0 1 f_land) ∧ (iv 0 9 f_huts) ∧ (iv 0 6 f_singers) ∧ (∀ j, iv 0 1 (a_laid j)))) (s_m_routes_0 (hI.1 0) (hMT.2.2.1) (hMT.2.2.2.1) (hI.1 12) (hI.1 13) (hI.1 14) (hI.2 12) (fun _ _ _ _ _ _ _ _ _ h0 h1 h2 h3 h4 => ⟨h0, h1, h2, h3, h4⟩))) (mPreV0 hK hM) hS (fun q (h : mA bm q) => Nat.le_trans hbx (Nat.le_trans (Nat.le_trans (Nat.le_add_right bx 93) hbm) h.1)) rfl rfl hls hW ⟨rfl, rfl⟩ ⟨(Nat.le_of_ble_eq_true rfl), (Nat.le_of_ble_eq_true rfl)⟩ hcs hd (fun r u H1 locs1 hw h9 hk hS => ?_)
  obtain ⟨f_code, f_land, f_huts, f_singers, a_routes, a_longest, a_steep, a_laid⟩ := u
  obtain ⟨n_f_code, n_f_land, n_f_huts, n_f_singers, n_a_laid⟩ := hw
  exact kk r _ _ _ rfl ⟨XS_kp hXS (fun z h1 h2 h3 => hk z h1 (fun (hA : mA bm z) => zap hbm hA.1 h3)), MS_of1 (M := M) h9 n_f_code n_f_land n_f_huts n_f_singers (hI.2 2) (hI.2 3) (hI.2 4) (hI.2 6) (hI.1 16) (hI.2 7) (hI.2 8) n_a_laid (hI.2 13) (hI.2 14) (hI.1 21) (hI.2 16), lE_kp hE (fun z h1 h2 => hk z h1 (fun (hA : mA bm z) => absurd hA.2 (Nat.not_lt.mpr h2))), hT, hMT⟩ hS

set_option maxRecDepth 40000 in
set_option maxHeartbeats 4000000 in
theorem gm_slopes {p : Program} {l : Launch} {e : Env} {s : State} {m : MethodId} {below : List Frame} {meth : Method} {c : Code} {E : zE} {G : zG} {b L bx bm cells slots : Nat} {xs : Nat → Int32} {mi : Nat → Option Nat} {ko : Option Nat} {T : TT} {M : Nat → Nat → Int32} {I : Nat → TT} {H : Heap} {locs : List Loc} {ls : Array Slot} {pc idx : Nat} {a1 a2 : Int32} (rest : List Value) (hcs : cells ≤ room_1.cells ∧ slots ≤ room_1.slots) (C0 : lw_At p s m meth c b L xs) (hbx : s.heap.size ≤ bx) (hbm : bx + 93 ≤ bm) (hK : zK E s) (hO : zO s ∧ zZ G (fun q => s.heap.size ≤ q) s s.heap) (hG : GG E bx bm mi ko T M I H) (hS : va_S (fun q => s.heap.size ≤ q) s.heap H locs) (hls : ls.size = 4) (hW : (rest.map fun v => v.category).sum ≤ 8) (hlk : Cond.methodLink RL idx yX11_slopes ∈ zb) (hd : decode cL_law pc = .ok (.invokevirtual idx, 3))
    (kk : ∀ (r : Int32) (M' : Nat → Nat → Int32) (H : Heap) (locs : List Loc), (M' = M) → GG E bx bm mi ko T M' I H → va_S (fun q => s.heap.size ≤ q) s.heap H locs → W p l e room_1 s m #[Value.ref b] below meth c H locs cells slots (lw_Z below #[Value.ref b] s) (F0 m (pc + 3) ls (.int r :: rest))) : W p l e room_1 s m #[Value.ref b] below meth c H locs cells slots (lw_Z below #[Value.ref b] s) (F0 m pc ls (.int a2 :: .int a1 :: .ref bm :: rest)) := by
  obtain ⟨hx, hb, hr, hml, hown, hts, hX0, hbl, hlocks, hgv⟩ := id C0
  have zc : zC p s m #[Value.ref b] meth c cL_law 4 RL ret := ⟨hx, hb, hml, hown, fun w hw => hts w (zb_in hw), hr, hlocks⟩
  obtain ⟨hXS, hMS, hE, hT, hMT⟩ := hG
  obtain ⟨S, V, f_word, a_rest, hI, hM⟩ := id hMS
  refine zVx_i [.int a1, .int a2] rest zc ky_X11_slopes kz_X11_slopes hlk (c_m_slopes l (post := (fun r f_code f_land f_huts f_singers a_run a_routes a_longest a_steep a_laid => (iv 0 0 f_code) ∧ (iv 0 1 f_land) ∧ (iv 0 9 f_huts) ∧ (iv 0 6 f_singers) ∧ (∀ j, iv 0 1000000 (a_run j)) ∧ (∀ j, iv 0 1 (a_laid j)))) (s_m_slopes_0 (hI.1 0) (hMT.2.2.1) (hMT.2.2.2.1) (hI.1 12) (hI.1 13) (hI.1 14) (hI.2 7) (hI.2 12) (fun _ _ _ _ _ _ _ _ _ _ h0 h1 h2 h3 h4 h5 => ⟨h0, h1, h2, h3, h4, h5⟩))) (mPreV0 hK hM) hS (fun q (h : mA bm q) => Nat.le_trans hbx (Nat.le_trans (Nat.le_trans (Nat.le_add_right bx 93) hbm) h.1)) rfl rfl hls hW ⟨rfl, rfl⟩ ⟨(Nat.le_of_ble_eq_true rfl), (Nat.le_of_ble_eq_true rfl)⟩ hcs hd (fun r u H1 locs1 hw h9 hk hS => ?_)
  obtain ⟨f_code, f_land, f_huts, f_singers, a_run, a_routes, a_longest, a_steep, a_laid⟩ := u
  obtain ⟨n_f_code, n_f_land, n_f_huts, n_f_singers, n_a_run, n_a_laid⟩ := hw
  exact kk r _ _ _ rfl ⟨XS_kp hXS (fun z h1 h2 h3 => hk z h1 (fun (hA : mA bm z) => zap hbm hA.1 h3)), MS_of1 (M := M) h9 n_f_code n_f_land n_f_huts n_f_singers (hI.2 2) (hI.2 3) (hI.2 4) (hI.2 6) (hI.1 16) n_a_run (hI.2 8) n_a_laid (hI.2 13) (hI.2 14) (hI.1 21) (hI.2 16), lE_kp hE (fun z h1 h2 => hk z h1 (fun (hA : mA bm z) => absurd hA.2 (Nat.not_lt.mpr h2))), hT, hMT⟩ hS

set_option maxRecDepth 40000 in
set_option maxHeartbeats 4000000 in
theorem gm_state {p : Program} {l : Launch} {e : Env} {s : State} {m : MethodId} {below : List Frame} {meth : Method} {c : Code} {E : zE} {G : zG} {b L bx bm cells slots : Nat} {xs : Nat → Int32} {mi : Nat → Option Nat} {ko : Option Nat} {T : TT} {M : Nat → Nat → Int32} {I : Nat → TT} {H : Heap} {locs : List Loc} {ls : Array Slot} {pc idx : Nat} {a1 a2 a3 a4 : Int32} (rest : List Value) (hcs : cells ≤ room_1.cells ∧ slots ≤ room_1.slots) (C0 : lw_At p s m meth c b L xs) (hbx : s.heap.size ≤ bx) (hbm : bx + 93 ≤ bm) (hK : zK E s) (hO : zO s ∧ zZ G (fun q => s.heap.size ≤ q) s s.heap) (hG : GG E bx bm mi ko T M I H) (hS : va_S (fun q => s.heap.size ≤ q) s.heap H locs) (hls : ls.size = 4) (hW : (rest.map fun v => v.category).sum ≤ 8) (hlk : Cond.methodLink RL idx yX11_state ∈ zb) (hd : decode cL_law pc = .ok (.invokevirtual idx, 3))
    (kk : ∀ (r : Int32) (M' : Nat → Nat → Int32) (H : Heap) (locs : List Loc), (M' = M) → GG E bx bm mi ko T M' I H → va_S (fun q => s.heap.size ≤ q) s.heap H locs → W p l e room_1 s m #[Value.ref b] below meth c H locs cells slots (lw_Z below #[Value.ref b] s) (F0 m (pc + 3) ls (.int r :: rest))) : W p l e room_1 s m #[Value.ref b] below meth c H locs cells slots (lw_Z below #[Value.ref b] s) (F0 m pc ls (.int a4 :: .int a3 :: .int a2 :: .int a1 :: .ref bm :: rest)) := by
  obtain ⟨hx, hb, hr, hml, hown, hts, hX0, hbl, hlocks, hgv⟩ := id C0
  have zc : zC p s m #[Value.ref b] meth c cL_law 4 RL ret := ⟨hx, hb, hml, hown, fun w hw => hts w (zb_in hw), hr, hlocks⟩
  obtain ⟨hXS, hMS, hE, hT, hMT⟩ := hG
  obtain ⟨S, V, f_word, a_rest, hI, hM⟩ := id hMS
  refine zVx_i [.int a1, .int a2, .int a3, .int a4] rest zc ky_X11_state kz_X11_state hlk (c_m_state l (post := (fun r f_code f_land f_huts f_singers f_evening a_at a_knows a_climbed a_snow a_level f_begun f_minute f_avalanches => (iv 0 0 f_code) ∧ (iv 0 1 f_land) ∧ (iv 0 9 f_huts) ∧ (iv 0 6 f_singers) ∧ (∀ j, iv 0 8 (a_at j)) ∧ (∀ j, iv 0 31 (a_knows j)) ∧ (∀ j, iv 0 1 (a_climbed j)) ∧ (∀ j, iv (-9) 108 (a_level j)) ∧ (iv 0 31 f_begun))) (s_m_state_0 (hI.1 0) (hMT.2.2.1) (hMT.2.2.2.1) (hMT.2.2.2.2.1) (hI.1 12) (hI.1 13) (hI.1 14) (hI.2 2) (hI.2 3) (hI.2 4) (hI.2 6) (hI.1 16) (fun _ _ _ _ _ _ _ _ _ _ _ _ _ _ h0 h1 h2 h3 h4 h5 h6 h7 h8 => ⟨h0, h1, h2, h3, h4, h5, h6, h7, h8⟩))) (mPreV0 hK hM) hS (fun q (h : mA bm q) => Nat.le_trans hbx (Nat.le_trans (Nat.le_trans (Nat.le_add_right bx 93) hbm) h.1)) rfl rfl hls hW ⟨rfl, rfl⟩ ⟨(Nat.le_of_ble_eq_true rfl), (Nat.le_of_ble_eq_true rfl)⟩ hcs hd (fun r u H1 locs1 hw h9 hk hS => ?_)
  obtain ⟨f_code, f_land, f_huts, f_singers, f_evening, a_at, a_knows, a_climbed, a_snow, a_level, f_begun, f_minute, f_avalanches⟩ := u
  obtain ⟨n_f_code, n_f_land, n_f_huts, n_f_singers, n_a_at, n_a_knows, n_a_climbed, n_a_level, n_f_begun⟩ := hw
  exact kk r _ _ _ rfl ⟨XS_kp hXS (fun z h1 h2 h3 => hk z h1 (fun (hA : mA bm z) => zap hbm hA.1 h3)), MS_of1 (M := M) h9 n_f_code n_f_land n_f_huts n_f_singers n_a_at n_a_knows n_a_climbed n_a_level n_f_begun (hI.2 7) (hI.2 8) (hI.2 12) (hI.2 13) (hI.2 14) (hI.1 21) (hI.2 16), lE_kp hE (fun z h1 h2 => hk z h1 (fun (hA : mA bm z) => absurd hA.2 (Nat.not_lt.mpr h2))), hT, hMT⟩ hS

set_option maxRecDepth 40000 in
set_option maxHeartbeats 4000000 in
theorem gm_stop {p : Program} {l : Launch} {e : Env} {s : State} {m : MethodId} {below : List Frame} {meth : Method} {c : Code} {E : zE} {G : zG} {b L bx bm cells slots : Nat} {xs : Nat → Int32} {mi : Nat → Option Nat} {ko : Option Nat} {T : TT} {M : Nat → Nat → Int32} {I : Nat → TT} {H : Heap} {locs : List Loc} {ls : Array Slot} {pc idx : Nat} {a1 a2 : Int32} (rest : List Value) (hcs : cells ≤ room_1.cells ∧ slots ≤ room_1.slots) (C0 : lw_At p s m meth c b L xs) (hbx : s.heap.size ≤ bx) (hbm : bx + 93 ≤ bm) (hK : zK E s) (hO : zO s ∧ zZ G (fun q => s.heap.size ≤ q) s s.heap) (hG : GG E bx bm mi ko T M I H) (hS : va_S (fun q => s.heap.size ≤ q) s.heap H locs) (hls : ls.size = 4) (hW : (rest.map fun v => v.category).sum ≤ 8) (hlk : Cond.methodLink RL idx yX11_stop ∈ zb) (hd : decode cL_law pc = .ok (.invokevirtual idx, 3))
    (kk : ∀ (r : Int32) (M' : Nat → Nat → Int32) (H : Heap) (locs : List Loc), (M' = M) → GG E bx bm mi ko T M' I H → va_S (fun q => s.heap.size ≤ q) s.heap H locs → W p l e room_1 s m #[Value.ref b] below meth c H locs cells slots (lw_Z below #[Value.ref b] s) (F0 m (pc + 3) ls (.int r :: rest))) : W p l e room_1 s m #[Value.ref b] below meth c H locs cells slots (lw_Z below #[Value.ref b] s) (F0 m pc ls (.int a2 :: .int a1 :: .ref bm :: rest)) := by
  obtain ⟨hx, hb, hr, hml, hown, hts, hX0, hbl, hlocks, hgv⟩ := id C0
  have zc : zC p s m #[Value.ref b] meth c cL_law 4 RL ret := ⟨hx, hb, hml, hown, fun w hw => hts w (zb_in hw), hr, hlocks⟩
  obtain ⟨hXS, hMS, hE, hT, hMT⟩ := hG
  obtain ⟨S, V, f_word, a_rest, hI, hM⟩ := id hMS
  refine zVx_i [.int a1, .int a2] rest zc ky_X11_stop kz_X11_stop hlk (c_m_stop l (post := (fun r f_code f_land f_huts f_singers f_evening a_at a_knows a_climbed a_snow a_level f_begun f_minute f_avalanches => (iv 0 0 f_code) ∧ (iv 0 1 f_land) ∧ (iv 0 9 f_huts) ∧ (iv 0 6 f_singers) ∧ (∀ j, iv 0 8 (a_at j)) ∧ (∀ j, iv 0 31 (a_knows j)) ∧ (∀ j, iv 0 1 (a_climbed j)) ∧ (∀ j, iv (-9) 108 (a_level j)) ∧ (iv 0 31 f_begun))) (s_m_stop_0 (hI.1 0) (hMT.2.2.1) (hMT.2.2.2.1) (hMT.2.2.2.2.1) (hI.1 12) (hI.1 13) (hI.1 14) (hI.2 2) (hI.2 3) (hI.2 4) (hI.2 6) (hI.1 16) (fun _ _ _ _ _ _ _ _ _ _ _ _ _ _ _ h1 h2 h3 h4 h5 h6 h7 h8 h9 => ⟨h1, h2, h3, h4, h5, h6, h7, h8, h9⟩))) (mPreV0 hK hM) hS (fun q (h : mA bm q) => Nat.le_trans hbx (Nat.le_trans (Nat.le_trans (Nat.le_add_right bx 93) hbm) h.1)) rfl rfl hls hW ⟨rfl, rfl⟩ ⟨(Nat.le_of_ble_eq_true rfl), (Nat.le_of_ble_eq_true rfl)⟩ hcs hd (fun r u H1 locs1 hw h9 hk hS => ?_)
  obtain ⟨f_code, f_land, f_huts, f_singers, f_evening, a_at, a_knows, a_climbed, a_snow, a_level, f_begun, f_minute, f_avalanches⟩ := u
  obtain ⟨n_f_code, n_f_land, n_f_huts, n_f_singers, n_a_at, n_a_knows, n_a_climbed, n_a_level, n_f_begun⟩ := hw
  exact kk r _ _ _ rfl ⟨XS_kp hXS (fun z h1 h2 h3 => hk z h1 (fun (hA : mA bm z) => zap hbm hA.1 h3)), MS_of1 (M := M) h9 n_f_code n_f_land n_f_huts n_f_singers n_a_at n_a_knows n_a_climbed n_a_level n_f_begun (hI.2 7) (hI.2 8) (hI.2 12) (hI.2 13) (hI.2 14) (hI.1 21) (hI.2 16), lE_kp hE (fun z h1 h2 => hk z h1 (fun (hA : mA bm z) => absurd hA.2 (Nat.not_lt.mpr h2))), hT, hMT⟩ hS

set_option maxRecDepth 40000 in
set_option maxHeartbeats 4000000 in
theorem gm_teach {p : Program} {l : Launch} {e : Env} {s : State} {m : MethodId} {below : List Frame} {meth : Method} {c : Code} {E : zE} {G : zG} {b L bx bm cells slots : Nat} {xs : Nat → Int32} {mi : Nat → Option Nat} {ko : Option Nat} {T : TT} {M : Nat → Nat → Int32} {I : Nat → TT} {H : Heap} {locs : List Loc} {ls : Array Slot} {pc idx : Nat} {a1 a2 a3 a4 : Int32} (rest : List Value) (hcs : cells ≤ room_1.cells ∧ slots ≤ room_1.slots) (C0 : lw_At p s m meth c b L xs) (hbx : s.heap.size ≤ bx) (hbm : bx + 93 ≤ bm) (hK : zK E s) (hO : zO s ∧ zZ G (fun q => s.heap.size ≤ q) s s.heap) (hG : GG E bx bm mi ko T M I H) (hS : va_S (fun q => s.heap.size ≤ q) s.heap H locs) (hKL : LK M) (hls : ls.size = 4) (hW : (rest.map fun v => v.category).sum ≤ 8) (hlk : Cond.methodLink RL idx yX11_teach ∈ zb) (hd : decode cL_law pc = .ok (.invokevirtual idx, 3))
    (kk : ∀ (r : Int32) (M' : Nat → Nat → Int32) (H : Heap) (locs : List Loc), (M' = M ∧ r = AN_teach M a1 a2 a3 a4) → GG E bx bm mi ko T M' I H → va_S (fun q => s.heap.size ≤ q) s.heap H locs → W p l e room_1 s m #[Value.ref b] below meth c H locs cells slots (lw_Z below #[Value.ref b] s) (F0 m (pc + 3) ls (.int r :: rest))) : W p l e room_1 s m #[Value.ref b] below meth c H locs cells slots (lw_Z below #[Value.ref b] s) (F0 m pc ls (.int a4 :: .int a3 :: .int a2 :: .int a1 :: .ref bm :: rest)) := by
  obtain ⟨hx, hb, hr, hml, hown, hts, hX0, hbl, hlocks, hgv⟩ := id C0
  have zc : zC p s m #[Value.ref b] meth c cL_law 4 RL ret := ⟨hx, hb, hml, hown, fun w hw => hts w (zb_in hw), hr, hlocks⟩
  obtain ⟨hXS, hMS, hE, hT, hMT⟩ := hG
  obtain ⟨S, V, f_word, a_rest, hI, hM⟩ := id hMS
  refine zVx_i [.int a1, .int a2, .int a3, .int a4] rest zc ky_X11_teach kz_X11_teach hlk (c_m_teach l (post := (fun r f_code f_land f_huts f_singers f_evening a_at a_knows a_climbed a_snow a_level f_begun f_minute f_avalanches => (r = AN_teach M a1 a2 a3 a4) ∧ (iv 0 0 f_code) ∧ (iv 0 1 f_land) ∧ (iv 0 9 f_huts) ∧ (iv 0 6 f_singers) ∧ (∀ j, iv 0 8 (a_at j)) ∧ (∀ j, iv 0 31 (a_knows j)) ∧ (∀ j, iv 0 1 (a_climbed j)) ∧ (∀ j, iv (-9) 108 (a_level j)) ∧ (iv 0 31 f_begun))) (cj_q_m_teach_0 (post_1 := fun r f_code f_land f_huts f_singers f_evening a_at a_knows a_climbed a_snow a_level f_begun f_minute f_avalanches => r = AN_teach M a1 a2 a3 a4) (post_2 := (fun r f_code f_land f_huts f_singers f_evening a_at a_knows a_climbed a_snow a_level f_begun f_minute f_avalanches => (iv 0 0 f_code) ∧ (iv 0 1 f_land) ∧ (iv 0 9 f_huts) ∧ (iv 0 6 f_singers) ∧ (∀ j, iv 0 8 (a_at j)) ∧ (∀ j, iv 0 31 (a_knows j)) ∧ (∀ j, iv 0 1 (a_climbed j)) ∧ (∀ j, iv (-9) 108 (a_level j)) ∧ (iv 0 31 f_begun))) (post_3 := (fun r f_code f_land f_huts f_singers f_evening a_at a_knows a_climbed a_snow a_level f_begun f_minute f_avalanches => (r = AN_teach M a1 a2 a3 a4) ∧ (iv 0 0 f_code) ∧ (iv 0 1 f_land) ∧ (iv 0 9 f_huts) ∧ (iv 0 6 f_singers) ∧ (∀ j, iv 0 8 (a_at j)) ∧ (∀ j, iv 0 31 (a_knows j)) ∧ (∀ j, iv 0 1 (a_climbed j)) ∧ (∀ j, iv (-9) 108 (a_level j)) ∧ (iv 0 31 f_begun))) (fun _ _ _ _ _ _ _ _ _ _ _ _ _ _ a b => ⟨a, b⟩) (e_m_teach (M := M) (hMT.2.2.1) (hMT.2.2.2.1) (hMT.2.2.2.2.1) hKL (fun _ _ _ _ _ _ _ _ _ _ _ _ _ => rfl)) (s_m_teach_0 (hI.1 0) (hMT.2.2.1) (hMT.2.2.2.1) (hMT.2.2.2.2.1) (hI.1 12) (hI.1 13) (hI.1 14) (hI.2 2) (hI.2 3) (hI.2 4) (hI.2 6) (hI.1 16) (fun _ _ _ _ _ _ _ _ _ _ _ _ _ _ h0 h1 h2 h3 h4 h5 h6 h7 h8 => ⟨h0, h1, h2, h3, h4, h5, h6, h7, h8⟩)))) (mPreV0 hK hM) hS (fun q (h : mA bm q) => Nat.le_trans hbx (Nat.le_trans (Nat.le_trans (Nat.le_add_right bx 93) hbm) h.1)) rfl rfl hls hW ⟨rfl, rfl⟩ ⟨(Nat.le_of_ble_eq_true rfl), (Nat.le_of_ble_eq_true rfl)⟩ hcs hd (fun r u H1 locs1 hw h9 hk hS => ?_)
  obtain ⟨f_code, f_land, f_huts, f_singers, f_evening, a_at, a_knows, a_climbed, a_snow, a_level, f_begun, f_minute, f_avalanches⟩ := u
  obtain ⟨hrel, n_f_code, n_f_land, n_f_huts, n_f_singers, n_a_at, n_a_knows, n_a_climbed, n_a_level, n_f_begun⟩ := hw
  exact kk r _ _ _ ⟨rfl, hrel⟩ ⟨XS_kp hXS (fun z h1 h2 h3 => hk z h1 (fun (hA : mA bm z) => zap hbm hA.1 h3)), MS_of1 (M := M) h9 n_f_code n_f_land n_f_huts n_f_singers n_a_at n_a_knows n_a_climbed n_a_level n_f_begun (hI.2 7) (hI.2 8) (hI.2 12) (hI.2 13) (hI.2 14) (hI.1 21) (hI.2 16), lE_kp hE (fun z h1 h2 => hk z h1 (fun (hA : mA bm z) => absurd hA.2 (Nat.not_lt.mpr h2))), hT, hMT⟩ hS

set_option maxRecDepth 40000 in
set_option maxHeartbeats 4000000 in
theorem gm_text {p : Program} {l : Launch} {e : Env} {s : State} {m : MethodId} {below : List Frame} {meth : Method} {c : Code} {E : zE} {G : zG} {b L bx bm cells slots : Nat} {xs : Nat → Int32} {mi : Nat → Option Nat} {ko : Option Nat} {T : TT} {M : Nat → Nat → Int32} {I : Nat → TT} {H : Heap} {locs : List Loc} {ls : Array Slot} {pc idx : Nat} {a1 a2 : Int32} (rest : List Value) (hcs : cells ≤ room_1.cells ∧ slots ≤ room_1.slots) (C0 : lw_At p s m meth c b L xs) (hbx : s.heap.size ≤ bx) (hbm : bx + 93 ≤ bm) (hK : zK E s) (hO : zO s ∧ zZ G (fun q => s.heap.size ≤ q) s s.heap) (hG : GG E bx bm mi ko T M I H) (hS : va_S (fun q => s.heap.size ≤ q) s.heap H locs) (hls : ls.size = 4) (hW : (rest.map fun v => v.category).sum ≤ 8) (hlk : Cond.methodLink RL idx yX11_text ∈ zb) (hd : decode cL_law pc = .ok (.invokevirtual idx, 3))
    (kk : ∀ (r : Int32) (M' : Nat → Nat → Int32) (H : Heap) (locs : List Loc), (mTX M M' a1 a2 r) → GG E bx bm mi ko T M' I H → va_S (fun q => s.heap.size ≤ q) s.heap H locs → W p l e room_1 s m #[Value.ref b] below meth c H locs cells slots (lw_Z below #[Value.ref b] s) (F0 m (pc + 3) ls (.int r :: rest))) : W p l e room_1 s m #[Value.ref b] below meth c H locs cells slots (lw_Z below #[Value.ref b] s) (F0 m pc ls (.int a2 :: .int a1 :: .ref bm :: rest)) := by
  obtain ⟨hx, hb, hr, hml, hown, hts, hX0, hbl, hlocks, hgv⟩ := id C0
  have zc : zC p s m #[Value.ref b] meth c cL_law 4 RL ret := ⟨hx, hb, hml, hown, fun w hw => hts w (zb_in hw), hr, hlocks⟩
  obtain ⟨hXS, hMS, hE, hT, hMT⟩ := hG
  obtain ⟨S, V, f_word, a_rest, hI, hM⟩ := id hMS
  refine zVx_i [.int a1, .int a2] rest zc ky_X11_text kz_X11_text hlk (c_m_text l (post := (fun r f_code a_size a_fault a_faultPlace a_many a_lands a_evenings a_sights a_choirs f_reached f_length f_begins f_sort f_value f_word f_wrongAt f_laterFault f_laterPlace a_told a_read f_farHut f_farSinger f_good => (mTX M (mmk (M 0) a_size a_fault a_faultPlace a_many a_lands a_evenings a_sights a_choirs (M 9)) a1 a2 r) ∧ (iv 0 0 f_code) ∧ (∀ j, iv 0 600 (a_size j)) ∧ (∀ j, iv 0 2 (a_many j)) ∧ (mLand a_lands) ∧ (mEve a_evenings) ∧ (mSig a_sights) ∧ (mCho a_choirs))) (cj_q_m_text_0 (post_1 := fun r f_code a_size a_fault a_faultPlace a_many a_lands a_evenings a_sights a_choirs f_reached f_length f_begins f_sort f_value f_word f_wrongAt f_laterFault f_laterPlace a_told a_read f_farHut f_farSinger f_good => mTX M (mmk (M 0) a_size a_fault a_faultPlace a_many a_lands a_evenings a_sights a_choirs (M 9)) a1 a2 r) (post_2 := (fun r f_code a_size a_fault a_faultPlace a_many a_lands a_evenings a_sights a_choirs f_reached f_length f_begins f_sort f_value f_word f_wrongAt f_laterFault f_laterPlace a_told a_read f_farHut f_farSinger f_good => (iv 0 0 f_code) ∧ (∀ j, iv 0 600 (a_size j)) ∧ (∀ j, iv 0 2 (a_many j)) ∧ (mLand a_lands) ∧ (mEve a_evenings) ∧ (mSig a_sights) ∧ (mCho a_choirs))) (post_3 := (fun r f_code a_size a_fault a_faultPlace a_many a_lands a_evenings a_sights a_choirs f_reached f_length f_begins f_sort f_value f_word f_wrongAt f_laterFault f_laterPlace a_told a_read f_farHut f_farSinger f_good => (mTX M (mmk (M 0) a_size a_fault a_faultPlace a_many a_lands a_evenings a_sights a_choirs (M 9)) a1 a2 r) ∧ (iv 0 0 f_code) ∧ (∀ j, iv 0 600 (a_size j)) ∧ (∀ j, iv 0 2 (a_many j)) ∧ (mLand a_lands) ∧ (mEve a_evenings) ∧ (mSig a_sights) ∧ (mCho a_choirs))) (fun _ _ _ _ _ _ _ _ _ _ _ _ _ _ _ _ _ _ _ _ _ _ _ _ a b => ⟨a, b⟩) (e_m_text2 (M := M) ((hMT.2.1) 0) (hMT.1) (hMT.2.2.1) (fun _ _ _ _ _ _ _ _ _ _ _ _ _ _ _ _ _ _ _ _ _ _ _ h => h)) (s_m_text_0 (hI.1 0) (hMT.1) (hMT.2.1) (hMT.2.2.1) (hMT.2.2.2.1) (hMT.2.2.2.2.1) (hMT.2.2.2.2.2.1) (hMT.2.2.2.2.2.2.1) (fun _ _ _ _ _ _ _ _ _ _ _ _ _ _ _ _ _ _ _ _ _ _ _ _ h0 h1 h2 h3 h4 h5 h6 => ⟨h0, h1, h2, h3, h4, h5, h6⟩)))) (mPreV0 hK hM) hS (fun q (h : mA bm q) => Nat.le_trans hbx (Nat.le_trans (Nat.le_trans (Nat.le_add_right bx 93) hbm) h.1)) rfl rfl hls hW ⟨rfl, rfl⟩ ⟨(Nat.le_of_ble_eq_true rfl), (Nat.le_of_ble_eq_true rfl)⟩ hcs hd (fun r u H1 locs1 hw h9 hk hS => ?_)
  obtain ⟨f_code, a_size, a_fault, a_faultPlace, a_many, a_lands, a_evenings, a_sights, a_choirs, f_reached, f_length, f_begins, f_sort, f_value, f_word, f_wrongAt, f_laterFault, f_laterPlace, a_told, a_read, f_farHut, f_farSinger, f_good⟩ := u
  obtain ⟨hrel, n_f_code, n_a_size, n_a_many, n_a_lands, n_a_evenings, n_a_sights, n_a_choirs⟩ := hw
  exact kk r (mmk (M 0) a_size a_fault a_faultPlace a_many a_lands a_evenings a_sights a_choirs (M 9)) _ _ hrel ⟨XS_kp hXS (fun z h1 h2 h3 => hk z h1 (fun (hA : mA bm z) => zap hbm hA.1 h3)), MS_of h9 n_f_code (hI.1 12) (hI.1 13) (hI.1 14) (hI.2 2) (hI.2 3) (hI.2 4) (hI.2 6) (hI.1 16) (hI.2 7) (hI.2 8) (hI.2 12) (hI.2 13) (hI.2 14) (hI.1 21) (hI.2 16), lE_kp hE (fun z h1 h2 => hk z h1 (fun (hA : mA bm z) => absurd hA.2 (Nat.not_lt.mpr h2))), hT, ⟨(hMT.1), n_a_size, n_a_many, n_a_lands, n_a_evenings, n_a_sights, n_a_choirs, (hMT.2.2.2.2.2.2.2)⟩⟩ hS

set_option maxRecDepth 40000 in
set_option maxHeartbeats 4000000 in
theorem gm_trade {p : Program} {l : Launch} {e : Env} {s : State} {m : MethodId} {below : List Frame} {meth : Method} {c : Code} {E : zE} {G : zG} {b L bx bm cells slots : Nat} {xs : Nat → Int32} {mi : Nat → Option Nat} {ko : Option Nat} {T : TT} {M : Nat → Nat → Int32} {I : Nat → TT} {H : Heap} {locs : List Loc} {ls : Array Slot} {pc idx : Nat} {a1 a2 a3 a4 : Int32} (rest : List Value) (hcs : cells ≤ room_1.cells ∧ slots ≤ room_1.slots) (C0 : lw_At p s m meth c b L xs) (hbx : s.heap.size ≤ bx) (hbm : bx + 93 ≤ bm) (hK : zK E s) (hO : zO s ∧ zZ G (fun q => s.heap.size ≤ q) s s.heap) (hG : GG E bx bm mi ko T M I H) (hS : va_S (fun q => s.heap.size ≤ q) s.heap H locs) (hls : ls.size = 4) (hW : (rest.map fun v => v.category).sum ≤ 8) (hlk : Cond.methodLink RL idx yX11_trade ∈ zb) (hd : decode cL_law pc = .ok (.invokevirtual idx, 3))
    (kk : ∀ (r : Int32) (M' : Nat → Nat → Int32) (H : Heap) (locs : List Loc), (M' = M) → GG E bx bm mi ko T M' I H → va_S (fun q => s.heap.size ≤ q) s.heap H locs → W p l e room_1 s m #[Value.ref b] below meth c H locs cells slots (lw_Z below #[Value.ref b] s) (F0 m (pc + 3) ls (.int r :: rest))) : W p l e room_1 s m #[Value.ref b] below meth c H locs cells slots (lw_Z below #[Value.ref b] s) (F0 m pc ls (.int a4 :: .int a3 :: .int a2 :: .int a1 :: .ref bm :: rest)) := by
  obtain ⟨hx, hb, hr, hml, hown, hts, hX0, hbl, hlocks, hgv⟩ := id C0
  have zc : zC p s m #[Value.ref b] meth c cL_law 4 RL ret := ⟨hx, hb, hml, hown, fun w hw => hts w (zb_in hw), hr, hlocks⟩
  obtain ⟨hXS, hMS, hE, hT, hMT⟩ := hG
  obtain ⟨S, V, f_word, a_rest, hI, hM⟩ := id hMS
  refine zVx_i [.int a1, .int a2, .int a3, .int a4] rest zc ky_X11_trade kz_X11_trade hlk (c_m_trade l (post := fun r f_code _ => iv 0 0 f_code) (tM (fun _ _ h => h))) (mPreV0 hK hM) hS (fun q (h : mA bm q) => Nat.le_trans hbx (Nat.le_trans (Nat.le_trans (Nat.le_add_right bx 93) hbm) h.1)) rfl rfl hls hW ⟨rfl, rfl⟩ ⟨(Nat.le_of_ble_eq_true rfl), (Nat.le_of_ble_eq_true rfl)⟩ hcs hd (fun r u H1 locs1 hw h9 hk hS => ?_)
  obtain ⟨f_code, a_wins⟩ := u
  have n_f_code := hw
  exact kk r _ _ _ rfl ⟨XS_kp hXS (fun z h1 h2 h3 => hk z h1 (fun (hA : mA bm z) => zap hbm hA.1 h3)), MS_of1 (M := M) h9 n_f_code (hI.1 12) (hI.1 13) (hI.1 14) (hI.2 2) (hI.2 3) (hI.2 4) (hI.2 6) (hI.1 16) (hI.2 7) (hI.2 8) (hI.2 12) (hI.2 13) (hI.2 14) (hI.1 21) (hI.2 16), lE_kp hE (fun z h1 h2 => hk z h1 (fun (hA : mA bm z) => absurd hA.2 (Nat.not_lt.mpr h2))), hT, hMT⟩ hS
end
section
set_option maxRecDepth 40000 in
set_option maxHeartbeats 4000000 in
theorem gm_villages {p : Program} {l : Launch} {e : Env} {s : State} {m : MethodId} {below : List Frame} {meth : Method} {c : Code} {E : zE} {G : zG} {b L bx bm cells slots : Nat} {xs : Nat → Int32} {mi : Nat → Option Nat} {ko : Option Nat} {T : TT} {M : Nat → Nat → Int32} {I : Nat → TT} {H : Heap} {locs : List Loc} {ls : Array Slot} {pc idx : Nat} {a1 a2 a3 : Int32} (rest : List Value) (hcs : cells ≤ room_1.cells ∧ slots ≤ room_1.slots) (C0 : lw_At p s m meth c b L xs) (hbx : s.heap.size ≤ bx) (hbm : bx + 93 ≤ bm) (hK : zK E s) (hO : zO s ∧ zZ G (fun q => s.heap.size ≤ q) s s.heap) (hG : GG E bx bm mi ko T M I H) (hS : va_S (fun q => s.heap.size ≤ q) s.heap H locs) (hls : ls.size = 4) (hW : (rest.map fun v => v.category).sum ≤ 8) (hlk : Cond.methodLink RL idx yX11_villages ∈ zb) (hd : decode cL_law pc = .ok (.invokevirtual idx, 3))
    (kk : ∀ (r : Int32) (M' : Nat → Nat → Int32) (H : Heap) (locs : List Loc), (M' = M) → GG E bx bm mi ko T M' I H → va_S (fun q => s.heap.size ≤ q) s.heap H locs → W p l e room_1 s m #[Value.ref b] below meth c H locs cells slots (lw_Z below #[Value.ref b] s) (F0 m (pc + 3) ls (.int r :: rest))) : W p l e room_1 s m #[Value.ref b] below meth c H locs cells slots (lw_Z below #[Value.ref b] s) (F0 m pc ls (.int a3 :: .int a2 :: .int a1 :: .ref bm :: rest)) := by
  obtain ⟨hx, hb, hr, hml, hown, hts, hX0, hbl, hlocks, hgv⟩ := id C0
  have zc : zC p s m #[Value.ref b] meth c cL_law 4 RL ret := ⟨hx, hb, hml, hown, fun w hw => hts w (zb_in hw), hr, hlocks⟩
  obtain ⟨hXS, hMS, hE, hT, hMT⟩ := hG
  obtain ⟨S, V, f_word, a_rest, hI, hM⟩ := id hMS
  refine zVx_i [.int a1, .int a2, .int a3] rest zc ky_X11_villages kz_X11_villages hlk (c_m_villages l (post := (fun r f_code f_land f_huts f_singers a_run a_covers => (iv 0 0 f_code) ∧ (iv 0 1 f_land) ∧ (iv 0 9 f_huts) ∧ (iv 0 6 f_singers) ∧ (∀ j, iv 0 1000000 (a_run j)) ∧ (∀ j, iv 0 511 (a_covers j)))) (s_m_villages_0 (hI.1 0) (hMT.2.2.1) (hMT.2.2.2.1) (hI.1 12) (hI.1 13) (hI.1 14) (hI.2 7) (hI.2 8) (fun _ _ _ _ _ _ _ _ h1 h2 h3 h4 h5 h6 => ⟨h1, h2, h3, h4, h5, h6⟩))) (mPreV0 hK hM) hS (fun q (h : mA bm q) => Nat.le_trans hbx (Nat.le_trans (Nat.le_trans (Nat.le_add_right bx 93) hbm) h.1)) rfl rfl hls hW ⟨rfl, rfl⟩ ⟨(Nat.le_of_ble_eq_true rfl), (Nat.le_of_ble_eq_true rfl)⟩ hcs hd (fun r u H1 locs1 hw h9 hk hS => ?_)
  obtain ⟨f_code, f_land, f_huts, f_singers, a_run, a_covers⟩ := u
  obtain ⟨n_f_code, n_f_land, n_f_huts, n_f_singers, n_a_run, n_a_covers⟩ := hw
  exact kk r _ _ _ rfl ⟨XS_kp hXS (fun z h1 h2 h3 => hk z h1 (fun (hA : mA bm z) => zap hbm hA.1 h3)), MS_of1 (M := M) h9 n_f_code n_f_land n_f_huts n_f_singers (hI.2 2) (hI.2 3) (hI.2 4) (hI.2 6) (hI.1 16) n_a_run n_a_covers (hI.2 12) (hI.2 13) (hI.2 14) (hI.1 21) (hI.2 16), lE_kp hE (fun z h1 h2 => hk z h1 (fun (hA : mA bm z) => absurd hA.2 (Nat.not_lt.mpr h2))), hT, hMT⟩ hS
end
section
set_option maxRecDepth 40000 in
set_option maxHeartbeats 4000000 in
theorem g_0 {p : Program} {l : Launch} {e : Env} {s : State} {m : MethodId} {below : List Frame} {meth : Method} {c : Code} {E : zE} {G : zG} {b L i bx bm cells slots : Nat} {xs : Nat → Int32} {mi : Nat → Option Nat} {ko : Option Nat} {T : TT} {M : Nat → Nat → Int32} {I : Nat → TT} {H : Heap} {locs : List Loc} {ls : Array Slot} (hi : i + 6 ≤ L) (hL : L ≤ 3072) (hR : RG T M I mi) (hcs : cells + 47 ≤ room_1.cells ∧ slots + 4608 ≤ room_1.slots) (C0 : lw_At p s m meth c b L xs) (hbx : s.heap.size ≤ bx) (hbm : bx + 93 ≤ bm) (hK : zK E s) (hO : zO s ∧ zZ G (fun q => s.heap.size ≤ q) s s.heap) (hG : GG E bx bm mi ko T M I H) (hS : va_S (fun q => s.heap.size ≤ q) s.heap H locs) (hl : lv_has ls 4 [(0, .ref b), (1, .ref bx), (2, .ref bm), (3, .int (nI i))])
    (kk : ∀ (mi : Nat → Option Nat) (ko : Option Nat) (T : TT) (M : Nat → Nat → Int32) (I : Nat → TT) (H : Heap) (locs : List Loc) (cells' slots' : Nat), cells' ≤ cells + 47 → slots' ≤ slots + 4608 → RG T M I mi → GG E bx bm mi ko T M I H → va_S (fun q => s.heap.size ≤ q) s.heap H locs → W p l e room_1 s m #[Value.ref b] below meth c H locs cells' slots' (lw_Z below #[Value.ref b] s) (F0 m 1647 ls [])) : W p l e room_1 s m #[Value.ref b] below meth c H locs cells slots (lw_Z below #[Value.ref b] s) (F0 m 180 ls []) := by
  obtain ⟨hx, hb, hr, hml, hown, hts, hX0, hbl, hlocks, hgv⟩ := id C0
  have zc : zC p s m #[Value.ref b] meth c cL_law 4 RL ret := ⟨hx, hb, hml, hown, fun w hw => hts w (zb_in hw), hr, hlocks⟩
  have hbA : ¬ (fun q : Nat => s.heap.size ≤ q) b := Nat.not_le.mpr hbl
  refine lv_aload_n hx hb dL_law_180 rfl (lv_at hl 1 rfl) ?_
  refine lv_aload_n hx hb dL_law_181 rfl (lv_at hl 0 rfl) ?_
  refine lv_iload_n hx hb dL_law_182 rfl (lv_at hl 3 rfl) ?_
  refine lv_iconst (v := (1 : Int32)) hx hb dL_law_183 (by decide) ?_
  refine lv_iadd hx hb dL_law_184 ?_
  refine va_sld hx hb hX0 hbl hbA hS (zidx (k := 1) hi hL rfl (by decide)) dL_law_185 ?_
  refine lv_aload_n hx hb dL_law_186 rfl (lv_at hl 0 rfl) ?_
  refine lv_iload_n hx hb dL_law_187 rfl (lv_at hl 3 rfl) ?_
  refine lv_iconst (v := (2 : Int32)) hx hb dL_law_188 (by decide) ?_
  refine lv_iadd hx hb dL_law_189 ?_
  refine va_sld hx hb hX0 hbl hbA hS (zidx (k := 2) hi hL rfl (by decide)) dL_law_190 ?_
  refine lv_aload_n hx hb dL_law_191 rfl (lv_at hl 0 rfl) ?_
  refine lv_iload_n hx hb dL_law_192 rfl (lv_at hl 3 rfl) ?_
  refine lv_iconst (v := (3 : Int32)) hx hb dL_law_193 (by decide) ?_
  refine lv_iadd hx hb dL_law_194 ?_
  refine va_sld hx hb hX0 hbl hbA hS (zidx (k := 3) hi hL rfl (by decide)) dL_law_195 ?_
  refine lv_aload_n hx hb dL_law_196 rfl (lv_at hl 0 rfl) ?_
  refine lv_iload_n hx hb dL_law_197 rfl (lv_at hl 3 rfl) ?_
  refine lv_iconst (v := (4 : Int32)) hx hb dL_law_198 (by decide) ?_
  refine lv_iadd hx hb dL_law_199 ?_
  refine va_sld hx hb hX0 hbl hbA hS (zidx (k := 4) hi hL rfl (by decide)) dL_law_200 ?_
  refine lv_aload_n hx hb dL_law_201 rfl (lv_at hl 0 rfl) ?_
  refine lv_iload_n hx hb dL_law_202 rfl (lv_at hl 3 rfl) ?_
  refine lv_iconst (v := (5 : Int32)) hx hb dL_law_203 (by decide) ?_
  refine lv_iadd hx hb dL_law_204 ?_
  refine va_sld hx hb hX0 hbl hbA hS (zidx (k := 5) hi hL rfl (by decide)) dL_law_205 ?_
  have hB0 := tB_of hG.2.2.2.1
  have hI0 := tBI_of hG.2.2.1
  refine gx_feed [] hcs C0 hbx hbm hK hO hG hS hl.1 (Nat.le_of_ble_eq_true rfl) kmL_13 dL_law_206 (fun r1 mi' ko' T' I' H locs cells' slots' hx1 e1 e2 hG1 hS1 => ?_)
  obtain ⟨rfl, rfl, hx2⟩ := hx1
  have hG := hG1
  have hS := hS1
  refine lv_pop hx hb dL_law_209 rfl ?_
  refine lv_aload_n hx hb dL_law_210 rfl (lv_at hl 2 rfl) ?_
  refine lv_aload_n hx hb dL_law_211 rfl (lv_at hl 0 rfl) ?_
  refine lv_iload_n hx hb dL_law_212 rfl (lv_at hl 3 rfl) ?_
  refine lv_iconst (v := (1 : Int32)) hx hb dL_law_213 (by decide) ?_
  refine lv_iadd hx hb dL_law_214 ?_
  refine va_sld hx hb hX0 hbl hbA hS (zidx (k := 1) hi hL rfl (by decide)) dL_law_215 ?_
  refine lv_aload_n hx hb dL_law_216 rfl (lv_at hl 0 rfl) ?_
  refine lv_iload_n hx hb dL_law_217 rfl (lv_at hl 3 rfl) ?_
  refine lv_iconst (v := (2 : Int32)) hx hb dL_law_218 (by decide) ?_
  refine lv_iadd hx hb dL_law_219 ?_
  refine va_sld hx hb hX0 hbl hbA hS (zidx (k := 2) hi hL rfl (by decide)) dL_law_220 ?_
  refine lv_aload_n hx hb dL_law_221 rfl (lv_at hl 0 rfl) ?_
  refine lv_iload_n hx hb dL_law_222 rfl (lv_at hl 3 rfl) ?_
  refine lv_iconst (v := (3 : Int32)) hx hb dL_law_223 (by decide) ?_
  refine lv_iadd hx hb dL_law_224 ?_
  refine va_sld hx hb hX0 hbl hbA hS (zidx (k := 3) hi hL rfl (by decide)) dL_law_225 ?_
  refine lv_aload_n hx hb dL_law_226 rfl (lv_at hl 0 rfl) ?_
  refine lv_iload_n hx hb dL_law_227 rfl (lv_at hl 3 rfl) ?_
  refine lv_iconst (v := (4 : Int32)) hx hb dL_law_228 (by decide) ?_
  refine lv_iadd hx hb dL_law_229 ?_
  refine va_sld hx hb hX0 hbl hbA hS (zidx (k := 4) hi hL rfl (by decide)) dL_law_230 ?_
  refine lv_aload_n hx hb dL_law_231 rfl (lv_at hl 0 rfl) ?_
  refine lv_iload_n hx hb dL_law_232 rfl (lv_at hl 3 rfl) ?_
  refine lv_iconst (v := (5 : Int32)) hx hb dL_law_233 (by decide) ?_
  refine lv_iadd hx hb dL_law_234 ?_
  refine va_sld hx hb hX0 hbl hbA hS (zidx (k := 5) hi hL rfl (by decide)) dL_law_235 ?_
  refine gm_feed [] ⟨Nat.le_trans e1 hcs.1, Nat.le_trans e2 hcs.2⟩ C0 hbx hbm hK hO hG hS hl.1 (Nat.le_of_ble_eq_true rfl) kmL_17 dL_law_236 (fun r2 M' H locs hm1 hG2 hS2 => ?_)
  obtain ⟨hrr, hR⟩ := RG_fd hR hB0 hI0 hx2 hm1
  have hG := hG2
  have hS := hS2
  refine lv_pop hx hb dL_law_239 rfl ?_
  refine lv_goto (tgt := 1647) hx hb dL_law_240 (by decide) ?_
  exact kk _ _ _ _ _ _ _ _ _ e1 e2 hR hG hS

set_option maxRecDepth 40000 in
set_option maxHeartbeats 4000000 in
theorem g_1 {p : Program} {l : Launch} {e : Env} {s : State} {m : MethodId} {below : List Frame} {meth : Method} {c : Code} {E : zE} {G : zG} {b L i bx bm cells slots : Nat} {xs : Nat → Int32} {mi : Nat → Option Nat} {ko : Option Nat} {T : TT} {M : Nat → Nat → Int32} {I : Nat → TT} {H : Heap} {locs : List Loc} {ls : Array Slot} (hi : i + 6 ≤ L) (hL : L ≤ 3072) (hR : RG T M I mi) (hcs : cells + 47 ≤ room_1.cells ∧ slots + 4608 ≤ room_1.slots) (C0 : lw_At p s m meth c b L xs) (hbx : s.heap.size ≤ bx) (hbm : bx + 93 ≤ bm) (hK : zK E s) (hO : zO s ∧ zZ G (fun q => s.heap.size ≤ q) s s.heap) (hG : GG E bx bm mi ko T M I H) (hS : va_S (fun q => s.heap.size ≤ q) s.heap H locs) (hl : lv_has ls 4 [(0, .ref b), (1, .ref bx), (2, .ref bm), (3, .int (nI i))])
    (kk : ∀ (mi : Nat → Option Nat) (ko : Option Nat) (T : TT) (M : Nat → Nat → Int32) (I : Nat → TT) (H : Heap) (locs : List Loc) (cells' slots' : Nat), cells' ≤ cells + 47 → slots' ≤ slots + 4608 → RG T M I mi → GG E bx bm mi ko T M I H → va_S (fun q => s.heap.size ≤ q) s.heap H locs → W p l e room_1 s m #[Value.ref b] below meth c H locs cells' slots' (lw_Z below #[Value.ref b] s) (F0 m 1647 ls [])) : W p l e room_1 s m #[Value.ref b] below meth c H locs cells slots (lw_Z below #[Value.ref b] s) (F0 m 243 ls []) := by
  obtain ⟨hx, hb, hr, hml, hown, hts, hX0, hbl, hlocks, hgv⟩ := id C0
  have zc : zC p s m #[Value.ref b] meth c cL_law 4 RL ret := ⟨hx, hb, hml, hown, fun w hw => hts w (zb_in hw), hr, hlocks⟩
  have hbA : ¬ (fun q : Nat => s.heap.size ≤ q) b := Nat.not_le.mpr hbl
  refine lv_aload_n hx hb dL_law_243 rfl (lv_at hl 1 rfl) ?_
  refine lv_aload_n hx hb dL_law_244 rfl (lv_at hl 0 rfl) ?_
  refine lv_iload_n hx hb dL_law_245 rfl (lv_at hl 3 rfl) ?_
  refine lv_iconst (v := (1 : Int32)) hx hb dL_law_246 (by decide) ?_
  refine lv_iadd hx hb dL_law_247 ?_
  refine va_sld hx hb hX0 hbl hbA hS (zidx (k := 1) hi hL rfl (by decide)) dL_law_248 ?_
  have hB0 := tB_of hG.2.2.2.1
  have hI0 := tBI_of hG.2.2.1
  refine gx_end [] hcs C0 hbx hbm hK hO hG hS hl.1 (Nat.le_of_ble_eq_true rfl) kmL_18 dL_law_249 (fun r1 mi' ko' T' I' H locs cells' slots' hx1 e1 e2 hG1 hS1 => ?_)
  obtain ⟨rfl, rfl, hx2⟩ := hx1
  have hG := hG1
  have hS := hS1
  refine lv_pop hx hb dL_law_252 rfl ?_
  refine lv_aload_n hx hb dL_law_253 rfl (lv_at hl 2 rfl) ?_
  refine lv_aload_n hx hb dL_law_254 rfl (lv_at hl 0 rfl) ?_
  refine lv_iload_n hx hb dL_law_255 rfl (lv_at hl 3 rfl) ?_
  refine lv_iconst (v := (1 : Int32)) hx hb dL_law_256 (by decide) ?_
  refine lv_iadd hx hb dL_law_257 ?_
  refine va_sld hx hb hX0 hbl hbA hS (zidx (k := 1) hi hL rfl (by decide)) dL_law_258 ?_
  refine gm_end [] ⟨Nat.le_trans e1 hcs.1, Nat.le_trans e2 hcs.2⟩ C0 hbx hbm hK hO hG hS hl.1 (Nat.le_of_ble_eq_true rfl) kmL_22 dL_law_259 (fun r2 M' H locs hm1 hG2 hS2 => ?_)
  obtain ⟨hrr, hR⟩ := RG_en hR hB0 hI0 hx2 hm1
  have hG := hG2
  have hS := hS2
  refine lv_pop hx hb dL_law_262 rfl ?_
  refine lv_goto (tgt := 1647) hx hb dL_law_263 (by decide) ?_
  exact kk _ _ _ _ _ _ _ _ _ e1 e2 hR hG hS

set_option maxRecDepth 40000 in
set_option maxHeartbeats 4000000 in
theorem g_2 {p : Program} {l : Launch} {e : Env} {s : State} {m : MethodId} {below : List Frame} {meth : Method} {c : Code} {E : zE} {G : zG} {b L i bx bm cells slots : Nat} {xs : Nat → Int32} {mi : Nat → Option Nat} {ko : Option Nat} {T : TT} {M : Nat → Nat → Int32} {I : Nat → TT} {H : Heap} {locs : List Loc} {ls : Array Slot} (hi : i + 6 ≤ L) (hL : L ≤ 3072) (hR : RG T M I mi) (hcs : cells + 47 ≤ room_1.cells ∧ slots + 4608 ≤ room_1.slots) (C0 : lw_At p s m meth c b L xs) (hbx : s.heap.size ≤ bx) (hbm : bx + 93 ≤ bm) (hK : zK E s) (hO : zO s ∧ zZ G (fun q => s.heap.size ≤ q) s s.heap) (hG : GG E bx bm mi ko T M I H) (hS : va_S (fun q => s.heap.size ≤ q) s.heap H locs) (hl : lv_has ls 4 [(0, .ref b), (1, .ref bx), (2, .ref bm), (3, .int (nI i))])
    (kk : ∀ (mi : Nat → Option Nat) (ko : Option Nat) (T : TT) (M : Nat → Nat → Int32) (I : Nat → TT) (H : Heap) (locs : List Loc) (cells' slots' : Nat), cells' ≤ cells + 47 → slots' ≤ slots + 4608 → RG T M I mi → GG E bx bm mi ko T M I H → va_S (fun q => s.heap.size ≤ q) s.heap H locs → W p l e room_1 s m #[Value.ref b] below meth c H locs cells' slots' (lw_Z below #[Value.ref b] s) (F0 m 1647 ls [])) : W p l e room_1 s m #[Value.ref b] below meth c H locs cells slots (lw_Z below #[Value.ref b] s) (F0 m 266 ls []) := by
  obtain ⟨hx, hb, hr, hml, hown, hts, hX0, hbl, hlocks, hgv⟩ := id C0
  have zc : zC p s m #[Value.ref b] meth c cL_law 4 RL ret := ⟨hx, hb, hml, hown, fun w hw => hts w (zb_in hw), hr, hlocks⟩
  have hbA : ¬ (fun q : Nat => s.heap.size ≤ q) b := Nat.not_le.mpr hbl
  refine lv_aload_n hx hb dL_law_266 rfl (lv_at hl 1 rfl) ?_
  refine lv_aload_n hx hb dL_law_267 rfl (lv_at hl 0 rfl) ?_
  refine lv_iload_n hx hb dL_law_268 rfl (lv_at hl 3 rfl) ?_
  refine lv_iconst (v := (1 : Int32)) hx hb dL_law_269 (by decide) ?_
  refine lv_iadd hx hb dL_law_270 ?_
  refine va_sld hx hb hX0 hbl hbA hS (zidx (k := 1) hi hL rfl (by decide)) dL_law_271 ?_
  refine lv_aload_n hx hb dL_law_272 rfl (lv_at hl 0 rfl) ?_
  refine lv_iload_n hx hb dL_law_273 rfl (lv_at hl 3 rfl) ?_
  refine lv_iconst (v := (2 : Int32)) hx hb dL_law_274 (by decide) ?_
  refine lv_iadd hx hb dL_law_275 ?_
  refine va_sld hx hb hX0 hbl hbA hS (zidx (k := 2) hi hL rfl (by decide)) dL_law_276 ?_
  have hB0 := tB_of hG.2.2.2.1
  have hI0 := tBI_of hG.2.2.1
  refine gx_text [] hcs C0 hbx hbm hK hO hG hS hl.1 (Nat.le_of_ble_eq_true rfl) kmL_23 dL_law_277 (fun r1 mi' ko' T' I' H locs cells' slots' hx1 e1 e2 hG1 hS1 => ?_)
  obtain ⟨rfl, rfl, hx2⟩ := hx1
  have hB1 := tB_of hG1.2.2.2.1
  have hG := hG1
  have hS := hS1
  refine lv_pop hx hb dL_law_280 rfl ?_
  refine lv_aload_n hx hb dL_law_281 rfl (lv_at hl 2 rfl) ?_
  refine lv_aload_n hx hb dL_law_282 rfl (lv_at hl 0 rfl) ?_
  refine lv_iload_n hx hb dL_law_283 rfl (lv_at hl 3 rfl) ?_
  refine lv_iconst (v := (1 : Int32)) hx hb dL_law_284 (by decide) ?_
  refine lv_iadd hx hb dL_law_285 ?_
  refine va_sld hx hb hX0 hbl hbA hS (zidx (k := 1) hi hL rfl (by decide)) dL_law_286 ?_
  refine lv_aload_n hx hb dL_law_287 rfl (lv_at hl 0 rfl) ?_
  refine lv_iload_n hx hb dL_law_288 rfl (lv_at hl 3 rfl) ?_
  refine lv_iconst (v := (2 : Int32)) hx hb dL_law_289 (by decide) ?_
  refine lv_iadd hx hb dL_law_290 ?_
  refine va_sld hx hb hX0 hbl hbA hS (zidx (k := 2) hi hL rfl (by decide)) dL_law_291 ?_
  refine gm_text [] ⟨Nat.le_trans e1 hcs.1, Nat.le_trans e2 hcs.2⟩ C0 hbx hbm hK hO hG hS hl.1 (Nat.le_of_ble_eq_true rfl) kmL_27 dL_law_292 (fun r2 M' H locs hm1 hG2 hS2 => ?_)
  obtain ⟨hrr, hR⟩ := RG_tx hR hB0 hB1 hI0 hx2 hm1
  have hG := hG2
  have hS := hS2
  refine lv_pop hx hb dL_law_295 rfl ?_
  refine lv_goto (tgt := 1647) hx hb dL_law_296 (by decide) ?_
  exact kk _ _ _ _ _ _ _ _ _ e1 e2 hR hG hS

set_option maxRecDepth 40000 in
set_option maxHeartbeats 4000000 in
theorem g_3 {p : Program} {l : Launch} {e : Env} {s : State} {m : MethodId} {below : List Frame} {meth : Method} {c : Code} {E : zE} {G : zG} {b L i bx bm cells slots : Nat} {xs : Nat → Int32} {mi : Nat → Option Nat} {ko : Option Nat} {T : TT} {M : Nat → Nat → Int32} {I : Nat → TT} {H : Heap} {locs : List Loc} {ls : Array Slot} (hi : i + 6 ≤ L) (hL : L ≤ 3072) (hR : RG T M I mi) (hcs : cells + 47 ≤ room_1.cells ∧ slots + 4608 ≤ room_1.slots) (C0 : lw_At p s m meth c b L xs) (hbx : s.heap.size ≤ bx) (hbm : bx + 93 ≤ bm) (hK : zK E s) (hO : zO s ∧ zZ G (fun q => s.heap.size ≤ q) s s.heap) (hG : GG E bx bm mi ko T M I H) (hS : va_S (fun q => s.heap.size ≤ q) s.heap H locs) (hl : lv_has ls 4 [(0, .ref b), (1, .ref bx), (2, .ref bm), (3, .int (nI i))])
    (kk : ∀ (mi : Nat → Option Nat) (ko : Option Nat) (T : TT) (M : Nat → Nat → Int32) (I : Nat → TT) (H : Heap) (locs : List Loc) (cells' slots' : Nat), cells' ≤ cells + 47 → slots' ≤ slots + 4608 → RG T M I mi → GG E bx bm mi ko T M I H → va_S (fun q => s.heap.size ≤ q) s.heap H locs → W p l e room_1 s m #[Value.ref b] below meth c H locs cells' slots' (lw_Z below #[Value.ref b] s) (F0 m 1647 ls [])) : W p l e room_1 s m #[Value.ref b] below meth c H locs cells slots (lw_Z below #[Value.ref b] s) (F0 m 299 ls []) := by
  obtain ⟨hx, hb, hr, hml, hown, hts, hX0, hbl, hlocks, hgv⟩ := id C0
  have zc : zC p s m #[Value.ref b] meth c cL_law 4 RL ret := ⟨hx, hb, hml, hown, fun w hw => hts w (zb_in hw), hr, hlocks⟩
  have hbA : ¬ (fun q : Nat => s.heap.size ≤ q) b := Nat.not_le.mpr hbl
  refine lv_aload_n hx hb dL_law_299 rfl (lv_at hl 1 rfl) ?_
  refine lv_aload_n hx hb dL_law_300 rfl (lv_at hl 0 rfl) ?_
  refine lv_iload_n hx hb dL_law_301 rfl (lv_at hl 3 rfl) ?_
  refine lv_iconst (v := (1 : Int32)) hx hb dL_law_302 (by decide) ?_
  refine lv_iadd hx hb dL_law_303 ?_
  refine va_sld hx hb hX0 hbl hbA hS (zidx (k := 1) hi hL rfl (by decide)) dL_law_304 ?_
  have hB0 := tB_of hG.2.2.2.1
  have hI0 := tBI_of hG.2.2.1
  refine gx_fault [] hcs C0 hbx hbm hK hO hG hS hl.1 (Nat.le_of_ble_eq_true rfl) kmL_28 dL_law_305 (fun r1 mi' ko' T' I' H locs cells' slots' hx1 e1 e2 hG1 hS1 => ?_)
  obtain ⟨rfl, rfl, rfl⟩ := hx1
  have hG := hG1
  have hS := hS1
  refine lv_pop hx hb dL_law_308 rfl ?_
  refine lv_aload_n hx hb dL_law_309 rfl (lv_at hl 2 rfl) ?_
  refine lv_aload_n hx hb dL_law_310 rfl (lv_at hl 0 rfl) ?_
  refine lv_iload_n hx hb dL_law_311 rfl (lv_at hl 3 rfl) ?_
  refine lv_iconst (v := (1 : Int32)) hx hb dL_law_312 (by decide) ?_
  refine lv_iadd hx hb dL_law_313 ?_
  refine va_sld hx hb hX0 hbl hbA hS (zidx (k := 1) hi hL rfl (by decide)) dL_law_314 ?_
  refine gm_fault [] ⟨Nat.le_trans e1 hcs.1, Nat.le_trans e2 hcs.2⟩ C0 hbx hbm hK hO hG hS hl.1 (Nat.le_of_ble_eq_true rfl) kmL_31 dL_law_315 (fun r2 M' H locs hm1 hG2 hS2 => ?_)
  obtain rfl := hm1
  have hG := hG2
  have hS := hS2
  refine lv_pop hx hb dL_law_318 rfl ?_
  refine lv_goto (tgt := 1647) hx hb dL_law_319 (by decide) ?_
  exact kk _ _ _ _ _ _ _ _ _ e1 e2 hR hG hS

set_option maxRecDepth 40000 in
set_option maxHeartbeats 4000000 in
theorem g_4 {p : Program} {l : Launch} {e : Env} {s : State} {m : MethodId} {below : List Frame} {meth : Method} {c : Code} {E : zE} {G : zG} {b L i bx bm cells slots : Nat} {xs : Nat → Int32} {mi : Nat → Option Nat} {ko : Option Nat} {T : TT} {M : Nat → Nat → Int32} {I : Nat → TT} {H : Heap} {locs : List Loc} {ls : Array Slot} (hi : i + 6 ≤ L) (hL : L ≤ 3072) (hR : RG T M I mi) (hcs : cells + 47 ≤ room_1.cells ∧ slots + 4608 ≤ room_1.slots) (C0 : lw_At p s m meth c b L xs) (hbx : s.heap.size ≤ bx) (hbm : bx + 93 ≤ bm) (hK : zK E s) (hO : zO s ∧ zZ G (fun q => s.heap.size ≤ q) s s.heap) (hG : GG E bx bm mi ko T M I H) (hS : va_S (fun q => s.heap.size ≤ q) s.heap H locs) (hl : lv_has ls 4 [(0, .ref b), (1, .ref bx), (2, .ref bm), (3, .int (nI i))])
    (kk : ∀ (mi : Nat → Option Nat) (ko : Option Nat) (T : TT) (M : Nat → Nat → Int32) (I : Nat → TT) (H : Heap) (locs : List Loc) (cells' slots' : Nat), cells' ≤ cells + 47 → slots' ≤ slots + 4608 → RG T M I mi → GG E bx bm mi ko T M I H → va_S (fun q => s.heap.size ≤ q) s.heap H locs → W p l e room_1 s m #[Value.ref b] below meth c H locs cells' slots' (lw_Z below #[Value.ref b] s) (F0 m 1647 ls [])) : W p l e room_1 s m #[Value.ref b] below meth c H locs cells slots (lw_Z below #[Value.ref b] s) (F0 m 322 ls []) := by
  obtain ⟨hx, hb, hr, hml, hown, hts, hX0, hbl, hlocks, hgv⟩ := id C0
  have zc : zC p s m #[Value.ref b] meth c cL_law 4 RL ret := ⟨hx, hb, hml, hown, fun w hw => hts w (zb_in hw), hr, hlocks⟩
  have hbA : ¬ (fun q : Nat => s.heap.size ≤ q) b := Nat.not_le.mpr hbl
  refine lv_aload_n hx hb dL_law_322 rfl (lv_at hl 1 rfl) ?_
  refine lv_aload_n hx hb dL_law_323 rfl (lv_at hl 0 rfl) ?_
  refine lv_iload_n hx hb dL_law_324 rfl (lv_at hl 3 rfl) ?_
  refine lv_iconst (v := (1 : Int32)) hx hb dL_law_325 (by decide) ?_
  refine lv_iadd hx hb dL_law_326 ?_
  refine va_sld hx hb hX0 hbl hbA hS (zidx (k := 1) hi hL rfl (by decide)) dL_law_327 ?_
  refine lv_aload_n hx hb dL_law_328 rfl (lv_at hl 0 rfl) ?_
  refine lv_iload_n hx hb dL_law_329 rfl (lv_at hl 3 rfl) ?_
  refine lv_iconst (v := (2 : Int32)) hx hb dL_law_330 (by decide) ?_
  refine lv_iadd hx hb dL_law_331 ?_
  refine va_sld hx hb hX0 hbl hbA hS (zidx (k := 2) hi hL rfl (by decide)) dL_law_332 ?_
  have hB0 := tB_of hG.2.2.2.1
  have hI0 := tBI_of hG.2.2.1
  refine gx_land [] hcs C0 hbx hbm hK hO hG hS hl.1 (Nat.le_of_ble_eq_true rfl) kmL_32 dL_law_333 (fun r1 mi' ko' T' I' H locs cells' slots' hx1 e1 e2 hG1 hS1 => ?_)
  obtain ⟨rfl, rfl, rfl⟩ := hx1
  have hG := hG1
  have hS := hS1
  refine lv_pop hx hb dL_law_336 rfl ?_
  refine lv_aload_n hx hb dL_law_337 rfl (lv_at hl 2 rfl) ?_
  refine lv_aload_n hx hb dL_law_338 rfl (lv_at hl 0 rfl) ?_
  refine lv_iload_n hx hb dL_law_339 rfl (lv_at hl 3 rfl) ?_
  refine lv_iconst (v := (1 : Int32)) hx hb dL_law_340 (by decide) ?_
  refine lv_iadd hx hb dL_law_341 ?_
  refine va_sld hx hb hX0 hbl hbA hS (zidx (k := 1) hi hL rfl (by decide)) dL_law_342 ?_
  refine lv_aload_n hx hb dL_law_343 rfl (lv_at hl 0 rfl) ?_
  refine lv_iload_n hx hb dL_law_344 rfl (lv_at hl 3 rfl) ?_
  refine lv_iconst (v := (2 : Int32)) hx hb dL_law_345 (by decide) ?_
  refine lv_iadd hx hb dL_law_346 ?_
  refine va_sld hx hb hX0 hbl hbA hS (zidx (k := 2) hi hL rfl (by decide)) dL_law_347 ?_
  refine gm_land [] ⟨Nat.le_trans e1 hcs.1, Nat.le_trans e2 hcs.2⟩ C0 hbx hbm hK hO hG hS hl.1 (Nat.le_of_ble_eq_true rfl) kmL_35 dL_law_348 (fun r2 M' H locs hm1 hG2 hS2 => ?_)
  obtain rfl := hm1
  have hG := hG2
  have hS := hS2
  refine lv_pop hx hb dL_law_351 rfl ?_
  refine lv_goto (tgt := 1647) hx hb dL_law_352 (by decide) ?_
  exact kk _ _ _ _ _ _ _ _ _ e1 e2 hR hG hS

set_option maxRecDepth 40000 in
set_option maxHeartbeats 4000000 in
theorem g_5 {p : Program} {l : Launch} {e : Env} {s : State} {m : MethodId} {below : List Frame} {meth : Method} {c : Code} {E : zE} {G : zG} {b L i bx bm cells slots : Nat} {xs : Nat → Int32} {mi : Nat → Option Nat} {ko : Option Nat} {T : TT} {M : Nat → Nat → Int32} {I : Nat → TT} {H : Heap} {locs : List Loc} {ls : Array Slot} (hi : i + 6 ≤ L) (hL : L ≤ 3072) (hR : RG T M I mi) (hcs : cells + 47 ≤ room_1.cells ∧ slots + 4608 ≤ room_1.slots) (C0 : lw_At p s m meth c b L xs) (hbx : s.heap.size ≤ bx) (hbm : bx + 93 ≤ bm) (hK : zK E s) (hO : zO s ∧ zZ G (fun q => s.heap.size ≤ q) s s.heap) (hG : GG E bx bm mi ko T M I H) (hS : va_S (fun q => s.heap.size ≤ q) s.heap H locs) (hl : lv_has ls 4 [(0, .ref b), (1, .ref bx), (2, .ref bm), (3, .int (nI i))])
    (kk : ∀ (mi : Nat → Option Nat) (ko : Option Nat) (T : TT) (M : Nat → Nat → Int32) (I : Nat → TT) (H : Heap) (locs : List Loc) (cells' slots' : Nat), cells' ≤ cells + 47 → slots' ≤ slots + 4608 → RG T M I mi → GG E bx bm mi ko T M I H → va_S (fun q => s.heap.size ≤ q) s.heap H locs → W p l e room_1 s m #[Value.ref b] below meth c H locs cells' slots' (lw_Z below #[Value.ref b] s) (F0 m 1647 ls [])) : W p l e room_1 s m #[Value.ref b] below meth c H locs cells slots (lw_Z below #[Value.ref b] s) (F0 m 355 ls []) := by
  obtain ⟨hx, hb, hr, hml, hown, hts, hX0, hbl, hlocks, hgv⟩ := id C0
  have zc : zC p s m #[Value.ref b] meth c cL_law 4 RL ret := ⟨hx, hb, hml, hown, fun w hw => hts w (zb_in hw), hr, hlocks⟩
  have hbA : ¬ (fun q : Nat => s.heap.size ≤ q) b := Nat.not_le.mpr hbl
  refine lv_aload_n hx hb dL_law_355 rfl (lv_at hl 1 rfl) ?_
  refine lv_aload_n hx hb dL_law_356 rfl (lv_at hl 0 rfl) ?_
  refine lv_iload_n hx hb dL_law_357 rfl (lv_at hl 3 rfl) ?_
  refine lv_iconst (v := (1 : Int32)) hx hb dL_law_358 (by decide) ?_
  refine lv_iadd hx hb dL_law_359 ?_
  refine va_sld hx hb hX0 hbl hbA hS (zidx (k := 1) hi hL rfl (by decide)) dL_law_360 ?_
  refine lv_aload_n hx hb dL_law_361 rfl (lv_at hl 0 rfl) ?_
  refine lv_iload_n hx hb dL_law_362 rfl (lv_at hl 3 rfl) ?_
  refine lv_iconst (v := (2 : Int32)) hx hb dL_law_363 (by decide) ?_
  refine lv_iadd hx hb dL_law_364 ?_
  refine va_sld hx hb hX0 hbl hbA hS (zidx (k := 2) hi hL rfl (by decide)) dL_law_365 ?_
  refine lv_aload_n hx hb dL_law_366 rfl (lv_at hl 0 rfl) ?_
  refine lv_iload_n hx hb dL_law_367 rfl (lv_at hl 3 rfl) ?_
  refine lv_iconst (v := (3 : Int32)) hx hb dL_law_368 (by decide) ?_
  refine lv_iadd hx hb dL_law_369 ?_
  refine va_sld hx hb hX0 hbl hbA hS (zidx (k := 3) hi hL rfl (by decide)) dL_law_370 ?_
  have hB0 := tB_of hG.2.2.2.1
  have hI0 := tBI_of hG.2.2.1
  refine gx_echo [] hcs C0 hbx hbm hK hO hG hS hl.1 (Nat.le_of_ble_eq_true rfl) kmL_36 dL_law_371 (fun r1 mi' ko' T' I' H locs cells' slots' hx1 e1 e2 hG1 hS1 => ?_)
  obtain ⟨rfl, rfl, rfl⟩ := hx1
  have hG := hG1
  have hS := hS1
  refine lv_pop hx hb dL_law_374 rfl ?_
  refine lv_aload_n hx hb dL_law_375 rfl (lv_at hl 2 rfl) ?_
  refine lv_aload_n hx hb dL_law_376 rfl (lv_at hl 0 rfl) ?_
  refine lv_iload_n hx hb dL_law_377 rfl (lv_at hl 3 rfl) ?_
  refine lv_iconst (v := (1 : Int32)) hx hb dL_law_378 (by decide) ?_
  refine lv_iadd hx hb dL_law_379 ?_
  refine va_sld hx hb hX0 hbl hbA hS (zidx (k := 1) hi hL rfl (by decide)) dL_law_380 ?_
  refine lv_aload_n hx hb dL_law_381 rfl (lv_at hl 0 rfl) ?_
  refine lv_iload_n hx hb dL_law_382 rfl (lv_at hl 3 rfl) ?_
  refine lv_iconst (v := (2 : Int32)) hx hb dL_law_383 (by decide) ?_
  refine lv_iadd hx hb dL_law_384 ?_
  refine va_sld hx hb hX0 hbl hbA hS (zidx (k := 2) hi hL rfl (by decide)) dL_law_385 ?_
  refine lv_aload_n hx hb dL_law_386 rfl (lv_at hl 0 rfl) ?_
  refine lv_iload_n hx hb dL_law_387 rfl (lv_at hl 3 rfl) ?_
  refine lv_iconst (v := (3 : Int32)) hx hb dL_law_388 (by decide) ?_
  refine lv_iadd hx hb dL_law_389 ?_
  refine va_sld hx hb hX0 hbl hbA hS (zidx (k := 3) hi hL rfl (by decide)) dL_law_390 ?_
  refine gm_echo [] ⟨Nat.le_trans e1 hcs.1, Nat.le_trans e2 hcs.2⟩ C0 hbx hbm hK hO hG hS hl.1 (Nat.le_of_ble_eq_true rfl) kmL_40 dL_law_391 (fun r2 M' H locs hm1 hG2 hS2 => ?_)
  obtain rfl := hm1
  have hG := hG2
  have hS := hS2
  refine lv_pop hx hb dL_law_394 rfl ?_
  refine lv_goto (tgt := 1647) hx hb dL_law_395 (by decide) ?_
  exact kk _ _ _ _ _ _ _ _ _ e1 e2 hR hG hS

set_option maxRecDepth 40000 in
set_option maxHeartbeats 4000000 in
theorem g_6 {p : Program} {l : Launch} {e : Env} {s : State} {m : MethodId} {below : List Frame} {meth : Method} {c : Code} {E : zE} {G : zG} {b L i bx bm cells slots : Nat} {xs : Nat → Int32} {mi : Nat → Option Nat} {ko : Option Nat} {T : TT} {M : Nat → Nat → Int32} {I : Nat → TT} {H : Heap} {locs : List Loc} {ls : Array Slot} (hi : i + 6 ≤ L) (hL : L ≤ 3072) (hR : RG T M I mi) (hcs : cells + 47 ≤ room_1.cells ∧ slots + 4608 ≤ room_1.slots) (C0 : lw_At p s m meth c b L xs) (hbx : s.heap.size ≤ bx) (hbm : bx + 93 ≤ bm) (hK : zK E s) (hO : zO s ∧ zZ G (fun q => s.heap.size ≤ q) s s.heap) (hG : GG E bx bm mi ko T M I H) (hS : va_S (fun q => s.heap.size ≤ q) s.heap H locs) (hl : lv_has ls 4 [(0, .ref b), (1, .ref bx), (2, .ref bm), (3, .int (nI i))])
    (kk : ∀ (mi : Nat → Option Nat) (ko : Option Nat) (T : TT) (M : Nat → Nat → Int32) (I : Nat → TT) (H : Heap) (locs : List Loc) (cells' slots' : Nat), cells' ≤ cells + 47 → slots' ≤ slots + 4608 → RG T M I mi → GG E bx bm mi ko T M I H → va_S (fun q => s.heap.size ≤ q) s.heap H locs → W p l e room_1 s m #[Value.ref b] below meth c H locs cells' slots' (lw_Z below #[Value.ref b] s) (F0 m 1647 ls [])) : W p l e room_1 s m #[Value.ref b] below meth c H locs cells slots (lw_Z below #[Value.ref b] s) (F0 m 398 ls []) := by
  obtain ⟨hx, hb, hr, hml, hown, hts, hX0, hbl, hlocks, hgv⟩ := id C0
  have zc : zC p s m #[Value.ref b] meth c cL_law 4 RL ret := ⟨hx, hb, hml, hown, fun w hw => hts w (zb_in hw), hr, hlocks⟩
  have hbA : ¬ (fun q : Nat => s.heap.size ≤ q) b := Nat.not_le.mpr hbl
  refine lv_aload_n hx hb dL_law_398 rfl (lv_at hl 1 rfl) ?_
  refine lv_aload_n hx hb dL_law_399 rfl (lv_at hl 0 rfl) ?_
  refine lv_iload_n hx hb dL_law_400 rfl (lv_at hl 3 rfl) ?_
  refine lv_iconst (v := (1 : Int32)) hx hb dL_law_401 (by decide) ?_
  refine lv_iadd hx hb dL_law_402 ?_
  refine va_sld hx hb hX0 hbl hbA hS (zidx (k := 1) hi hL rfl (by decide)) dL_law_403 ?_
  refine lv_aload_n hx hb dL_law_404 rfl (lv_at hl 0 rfl) ?_
  refine lv_iload_n hx hb dL_law_405 rfl (lv_at hl 3 rfl) ?_
  refine lv_iconst (v := (2 : Int32)) hx hb dL_law_406 (by decide) ?_
  refine lv_iadd hx hb dL_law_407 ?_
  refine va_sld hx hb hX0 hbl hbA hS (zidx (k := 2) hi hL rfl (by decide)) dL_law_408 ?_
  refine lv_aload_n hx hb dL_law_409 rfl (lv_at hl 0 rfl) ?_
  refine lv_iload_n hx hb dL_law_410 rfl (lv_at hl 3 rfl) ?_
  refine lv_iconst (v := (3 : Int32)) hx hb dL_law_411 (by decide) ?_
  refine lv_iadd hx hb dL_law_412 ?_
  refine va_sld hx hb hX0 hbl hbA hS (zidx (k := 3) hi hL rfl (by decide)) dL_law_413 ?_
  have hB0 := tB_of hG.2.2.2.1
  have hI0 := tBI_of hG.2.2.1
  refine gx_deed [] hcs C0 hbx hbm hK hO hG hS hl.1 (Nat.le_of_ble_eq_true rfl) kmL_41 dL_law_414 (fun r1 mi' ko' T' I' H locs cells' slots' hx1 e1 e2 hG1 hS1 => ?_)
  obtain ⟨rfl, rfl, rfl⟩ := hx1
  have hG := hG1
  have hS := hS1
  refine lv_pop hx hb dL_law_417 rfl ?_
  refine lv_aload_n hx hb dL_law_418 rfl (lv_at hl 2 rfl) ?_
  refine lv_aload_n hx hb dL_law_419 rfl (lv_at hl 0 rfl) ?_
  refine lv_iload_n hx hb dL_law_420 rfl (lv_at hl 3 rfl) ?_
  refine lv_iconst (v := (1 : Int32)) hx hb dL_law_421 (by decide) ?_
  refine lv_iadd hx hb dL_law_422 ?_
  refine va_sld hx hb hX0 hbl hbA hS (zidx (k := 1) hi hL rfl (by decide)) dL_law_423 ?_
  refine lv_aload_n hx hb dL_law_424 rfl (lv_at hl 0 rfl) ?_
  refine lv_iload_n hx hb dL_law_425 rfl (lv_at hl 3 rfl) ?_
  refine lv_iconst (v := (2 : Int32)) hx hb dL_law_426 (by decide) ?_
  refine lv_iadd hx hb dL_law_427 ?_
  refine va_sld hx hb hX0 hbl hbA hS (zidx (k := 2) hi hL rfl (by decide)) dL_law_428 ?_
  refine lv_aload_n hx hb dL_law_429 rfl (lv_at hl 0 rfl) ?_
  refine lv_iload_n hx hb dL_law_430 rfl (lv_at hl 3 rfl) ?_
  refine lv_iconst (v := (3 : Int32)) hx hb dL_law_431 (by decide) ?_
  refine lv_iadd hx hb dL_law_432 ?_
  refine va_sld hx hb hX0 hbl hbA hS (zidx (k := 3) hi hL rfl (by decide)) dL_law_433 ?_
  refine gm_deed [] ⟨Nat.le_trans e1 hcs.1, Nat.le_trans e2 hcs.2⟩ C0 hbx hbm hK hO hG hS hl.1 (Nat.le_of_ble_eq_true rfl) kmL_44 dL_law_434 (fun r2 M' H locs hm1 hG2 hS2 => ?_)
  obtain rfl := hm1
  have hG := hG2
  have hS := hS2
  refine lv_pop hx hb dL_law_437 rfl ?_
  refine lv_goto (tgt := 1647) hx hb dL_law_438 (by decide) ?_
  exact kk _ _ _ _ _ _ _ _ _ e1 e2 hR hG hS

set_option maxRecDepth 40000 in
set_option maxHeartbeats 4000000 in
theorem g_7 {p : Program} {l : Launch} {e : Env} {s : State} {m : MethodId} {below : List Frame} {meth : Method} {c : Code} {E : zE} {G : zG} {b L i bx bm cells slots : Nat} {xs : Nat → Int32} {mi : Nat → Option Nat} {ko : Option Nat} {T : TT} {M : Nat → Nat → Int32} {I : Nat → TT} {H : Heap} {locs : List Loc} {ls : Array Slot} (hi : i + 6 ≤ L) (hL : L ≤ 3072) (hR : RG T M I mi) (hcs : cells + 47 ≤ room_1.cells ∧ slots + 4608 ≤ room_1.slots) (C0 : lw_At p s m meth c b L xs) (hbx : s.heap.size ≤ bx) (hbm : bx + 93 ≤ bm) (hK : zK E s) (hO : zO s ∧ zZ G (fun q => s.heap.size ≤ q) s s.heap) (hG : GG E bx bm mi ko T M I H) (hS : va_S (fun q => s.heap.size ≤ q) s.heap H locs) (hl : lv_has ls 4 [(0, .ref b), (1, .ref bx), (2, .ref bm), (3, .int (nI i))])
    (kk : ∀ (mi : Nat → Option Nat) (ko : Option Nat) (T : TT) (M : Nat → Nat → Int32) (I : Nat → TT) (H : Heap) (locs : List Loc) (cells' slots' : Nat), cells' ≤ cells + 47 → slots' ≤ slots + 4608 → RG T M I mi → GG E bx bm mi ko T M I H → va_S (fun q => s.heap.size ≤ q) s.heap H locs → W p l e room_1 s m #[Value.ref b] below meth c H locs cells' slots' (lw_Z below #[Value.ref b] s) (F0 m 1647 ls [])) : W p l e room_1 s m #[Value.ref b] below meth c H locs cells slots (lw_Z below #[Value.ref b] s) (F0 m 441 ls []) := by
  obtain ⟨hx, hb, hr, hml, hown, hts, hX0, hbl, hlocks, hgv⟩ := id C0
  have zc : zC p s m #[Value.ref b] meth c cL_law 4 RL ret := ⟨hx, hb, hml, hown, fun w hw => hts w (zb_in hw), hr, hlocks⟩
  have hbA : ¬ (fun q : Nat => s.heap.size ≤ q) b := Nat.not_le.mpr hbl
  refine lv_aload_n hx hb dL_law_441 rfl (lv_at hl 1 rfl) ?_
  refine lv_aload_n hx hb dL_law_442 rfl (lv_at hl 0 rfl) ?_
  refine lv_iload_n hx hb dL_law_443 rfl (lv_at hl 3 rfl) ?_
  refine lv_iconst (v := (1 : Int32)) hx hb dL_law_444 (by decide) ?_
  refine lv_iadd hx hb dL_law_445 ?_
  refine va_sld hx hb hX0 hbl hbA hS (zidx (k := 1) hi hL rfl (by decide)) dL_law_446 ?_
  refine lv_aload_n hx hb dL_law_447 rfl (lv_at hl 0 rfl) ?_
  refine lv_iload_n hx hb dL_law_448 rfl (lv_at hl 3 rfl) ?_
  refine lv_iconst (v := (2 : Int32)) hx hb dL_law_449 (by decide) ?_
  refine lv_iadd hx hb dL_law_450 ?_
  refine va_sld hx hb hX0 hbl hbA hS (zidx (k := 2) hi hL rfl (by decide)) dL_law_451 ?_
  have hB0 := tB_of hG.2.2.2.1
  have hI0 := tBI_of hG.2.2.1
  refine gx_stop [] hcs C0 hbx hbm hK hO hG hS hl.1 (Nat.le_of_ble_eq_true rfl) kmL_45 dL_law_452 (fun r1 mi' ko' T' I' H locs cells' slots' hx1 e1 e2 hG1 hS1 => ?_)
  obtain ⟨rfl, rfl, rfl⟩ := hx1
  have hG := hG1
  have hS := hS1
  refine lv_pop hx hb dL_law_455 rfl ?_
  refine lv_aload_n hx hb dL_law_456 rfl (lv_at hl 2 rfl) ?_
  refine lv_aload_n hx hb dL_law_457 rfl (lv_at hl 0 rfl) ?_
  refine lv_iload_n hx hb dL_law_458 rfl (lv_at hl 3 rfl) ?_
  refine lv_iconst (v := (1 : Int32)) hx hb dL_law_459 (by decide) ?_
  refine lv_iadd hx hb dL_law_460 ?_
  refine va_sld hx hb hX0 hbl hbA hS (zidx (k := 1) hi hL rfl (by decide)) dL_law_461 ?_
  refine lv_aload_n hx hb dL_law_462 rfl (lv_at hl 0 rfl) ?_
  refine lv_iload_n hx hb dL_law_463 rfl (lv_at hl 3 rfl) ?_
  refine lv_iconst (v := (2 : Int32)) hx hb dL_law_464 (by decide) ?_
  refine lv_iadd hx hb dL_law_465 ?_
  refine va_sld hx hb hX0 hbl hbA hS (zidx (k := 2) hi hL rfl (by decide)) dL_law_466 ?_
  refine gm_stop [] ⟨Nat.le_trans e1 hcs.1, Nat.le_trans e2 hcs.2⟩ C0 hbx hbm hK hO hG hS hl.1 (Nat.le_of_ble_eq_true rfl) kmL_48 dL_law_467 (fun r2 M' H locs hm1 hG2 hS2 => ?_)
  obtain rfl := hm1
  have hG := hG2
  have hS := hS2
  refine lv_pop hx hb dL_law_470 rfl ?_
  refine lv_goto (tgt := 1647) hx hb dL_law_471 (by decide) ?_
  exact kk _ _ _ _ _ _ _ _ _ e1 e2 hR hG hS

set_option maxRecDepth 40000 in
set_option maxHeartbeats 4000000 in
theorem g_8 {p : Program} {l : Launch} {e : Env} {s : State} {m : MethodId} {below : List Frame} {meth : Method} {c : Code} {E : zE} {G : zG} {b L i bx bm cells slots : Nat} {xs : Nat → Int32} {mi : Nat → Option Nat} {ko : Option Nat} {T : TT} {M : Nat → Nat → Int32} {I : Nat → TT} {H : Heap} {locs : List Loc} {ls : Array Slot} (hi : i + 6 ≤ L) (hL : L ≤ 3072) (hR : RG T M I mi) (hcs : cells + 47 ≤ room_1.cells ∧ slots + 4608 ≤ room_1.slots) (C0 : lw_At p s m meth c b L xs) (hbx : s.heap.size ≤ bx) (hbm : bx + 93 ≤ bm) (hK : zK E s) (hO : zO s ∧ zZ G (fun q => s.heap.size ≤ q) s s.heap) (hG : GG E bx bm mi ko T M I H) (hS : va_S (fun q => s.heap.size ≤ q) s.heap H locs) (hl : lv_has ls 4 [(0, .ref b), (1, .ref bx), (2, .ref bm), (3, .int (nI i))])
    (kk : ∀ (mi : Nat → Option Nat) (ko : Option Nat) (T : TT) (M : Nat → Nat → Int32) (I : Nat → TT) (H : Heap) (locs : List Loc) (cells' slots' : Nat), cells' ≤ cells + 47 → slots' ≤ slots + 4608 → RG T M I mi → GG E bx bm mi ko T M I H → va_S (fun q => s.heap.size ≤ q) s.heap H locs → W p l e room_1 s m #[Value.ref b] below meth c H locs cells' slots' (lw_Z below #[Value.ref b] s) (F0 m 1647 ls [])) : W p l e room_1 s m #[Value.ref b] below meth c H locs cells slots (lw_Z below #[Value.ref b] s) (F0 m 474 ls []) := by
  obtain ⟨hx, hb, hr, hml, hown, hts, hX0, hbl, hlocks, hgv⟩ := id C0
  have zc : zC p s m #[Value.ref b] meth c cL_law 4 RL ret := ⟨hx, hb, hml, hown, fun w hw => hts w (zb_in hw), hr, hlocks⟩
  have hbA : ¬ (fun q : Nat => s.heap.size ≤ q) b := Nat.not_le.mpr hbl
  refine lv_aload_n hx hb dL_law_474 rfl (lv_at hl 1 rfl) ?_
  refine lv_aload_n hx hb dL_law_475 rfl (lv_at hl 0 rfl) ?_
  refine lv_iload_n hx hb dL_law_476 rfl (lv_at hl 3 rfl) ?_
  refine lv_iconst (v := (1 : Int32)) hx hb dL_law_477 (by decide) ?_
  refine lv_iadd hx hb dL_law_478 ?_
  refine va_sld hx hb hX0 hbl hbA hS (zidx (k := 1) hi hL rfl (by decide)) dL_law_479 ?_
  refine lv_aload_n hx hb dL_law_480 rfl (lv_at hl 0 rfl) ?_
  refine lv_iload_n hx hb dL_law_481 rfl (lv_at hl 3 rfl) ?_
  refine lv_iconst (v := (2 : Int32)) hx hb dL_law_482 (by decide) ?_
  refine lv_iadd hx hb dL_law_483 ?_
  refine va_sld hx hb hX0 hbl hbA hS (zidx (k := 2) hi hL rfl (by decide)) dL_law_484 ?_
  refine lv_aload_n hx hb dL_law_485 rfl (lv_at hl 0 rfl) ?_
  refine lv_iload_n hx hb dL_law_486 rfl (lv_at hl 3 rfl) ?_
  refine lv_iconst (v := (3 : Int32)) hx hb dL_law_487 (by decide) ?_
  refine lv_iadd hx hb dL_law_488 ?_
  refine va_sld hx hb hX0 hbl hbA hS (zidx (k := 3) hi hL rfl (by decide)) dL_law_489 ?_
  refine lv_aload_n hx hb dL_law_490 rfl (lv_at hl 0 rfl) ?_
  refine lv_iload_n hx hb dL_law_491 rfl (lv_at hl 3 rfl) ?_
  refine lv_iconst (v := (4 : Int32)) hx hb dL_law_492 (by decide) ?_
  refine lv_iadd hx hb dL_law_493 ?_
  refine va_sld hx hb hX0 hbl hbA hS (zidx (k := 4) hi hL rfl (by decide)) dL_law_494 ?_
  have hB0 := tB_of hG.2.2.2.1
  have hI0 := tBI_of hG.2.2.1
  refine gx_state [] hcs C0 hbx hbm hK hO hG hS hl.1 (Nat.le_of_ble_eq_true rfl) kmL_49 dL_law_495 (fun r1 mi' ko' T' I' H locs cells' slots' hx1 e1 e2 hG1 hS1 => ?_)
  obtain ⟨rfl, rfl, rfl⟩ := hx1
  have hG := hG1
  have hS := hS1
  refine lv_pop hx hb dL_law_498 rfl ?_
  refine lv_aload_n hx hb dL_law_499 rfl (lv_at hl 2 rfl) ?_
  refine lv_aload_n hx hb dL_law_500 rfl (lv_at hl 0 rfl) ?_
  refine lv_iload_n hx hb dL_law_501 rfl (lv_at hl 3 rfl) ?_
  refine lv_iconst (v := (1 : Int32)) hx hb dL_law_502 (by decide) ?_
  refine lv_iadd hx hb dL_law_503 ?_
  refine va_sld hx hb hX0 hbl hbA hS (zidx (k := 1) hi hL rfl (by decide)) dL_law_504 ?_
  refine lv_aload_n hx hb dL_law_505 rfl (lv_at hl 0 rfl) ?_
  refine lv_iload_n hx hb dL_law_506 rfl (lv_at hl 3 rfl) ?_
  refine lv_iconst (v := (2 : Int32)) hx hb dL_law_507 (by decide) ?_
  refine lv_iadd hx hb dL_law_508 ?_
  refine va_sld hx hb hX0 hbl hbA hS (zidx (k := 2) hi hL rfl (by decide)) dL_law_509 ?_
  refine lv_aload_n hx hb dL_law_510 rfl (lv_at hl 0 rfl) ?_
  refine lv_iload_n hx hb dL_law_511 rfl (lv_at hl 3 rfl) ?_
  refine lv_iconst (v := (3 : Int32)) hx hb dL_law_512 (by decide) ?_
  refine lv_iadd hx hb dL_law_513 ?_
  refine va_sld hx hb hX0 hbl hbA hS (zidx (k := 3) hi hL rfl (by decide)) dL_law_514 ?_
  refine lv_aload_n hx hb dL_law_515 rfl (lv_at hl 0 rfl) ?_
  refine lv_iload_n hx hb dL_law_516 rfl (lv_at hl 3 rfl) ?_
  refine lv_iconst (v := (4 : Int32)) hx hb dL_law_517 (by decide) ?_
  refine lv_iadd hx hb dL_law_518 ?_
  refine va_sld hx hb hX0 hbl hbA hS (zidx (k := 4) hi hL rfl (by decide)) dL_law_519 ?_
  refine gm_state [] ⟨Nat.le_trans e1 hcs.1, Nat.le_trans e2 hcs.2⟩ C0 hbx hbm hK hO hG hS hl.1 (Nat.le_of_ble_eq_true rfl) kmL_53 dL_law_520 (fun r2 M' H locs hm1 hG2 hS2 => ?_)
  obtain rfl := hm1
  have hG := hG2
  have hS := hS2
  refine lv_pop hx hb dL_law_523 rfl ?_
  refine lv_goto (tgt := 1647) hx hb dL_law_524 (by decide) ?_
  exact kk _ _ _ _ _ _ _ _ _ e1 e2 hR hG hS

set_option maxRecDepth 40000 in
set_option maxHeartbeats 4000000 in
theorem g_9 {p : Program} {l : Launch} {e : Env} {s : State} {m : MethodId} {below : List Frame} {meth : Method} {c : Code} {E : zE} {G : zG} {b L i bx bm cells slots : Nat} {xs : Nat → Int32} {mi : Nat → Option Nat} {ko : Option Nat} {T : TT} {M : Nat → Nat → Int32} {I : Nat → TT} {H : Heap} {locs : List Loc} {ls : Array Slot} (hi : i + 6 ≤ L) (hL : L ≤ 3072) (hR : RG T M I mi) (hcs : cells + 47 ≤ room_1.cells ∧ slots + 4608 ≤ room_1.slots) (C0 : lw_At p s m meth c b L xs) (hbx : s.heap.size ≤ bx) (hbm : bx + 93 ≤ bm) (hK : zK E s) (hO : zO s ∧ zZ G (fun q => s.heap.size ≤ q) s s.heap) (hG : GG E bx bm mi ko T M I H) (hS : va_S (fun q => s.heap.size ≤ q) s.heap H locs) (hl : lv_has ls 4 [(0, .ref b), (1, .ref bx), (2, .ref bm), (3, .int (nI i))])
    (kk : ∀ (mi : Nat → Option Nat) (ko : Option Nat) (T : TT) (M : Nat → Nat → Int32) (I : Nat → TT) (H : Heap) (locs : List Loc) (cells' slots' : Nat), cells' ≤ cells + 47 → slots' ≤ slots + 4608 → RG T M I mi → GG E bx bm mi ko T M I H → va_S (fun q => s.heap.size ≤ q) s.heap H locs → W p l e room_1 s m #[Value.ref b] below meth c H locs cells' slots' (lw_Z below #[Value.ref b] s) (F0 m 1647 ls [])) : W p l e room_1 s m #[Value.ref b] below meth c H locs cells slots (lw_Z below #[Value.ref b] s) (F0 m 527 ls []) := by
  obtain ⟨hx, hb, hr, hml, hown, hts, hX0, hbl, hlocks, hgv⟩ := id C0
  have zc : zC p s m #[Value.ref b] meth c cL_law 4 RL ret := ⟨hx, hb, hml, hown, fun w hw => hts w (zb_in hw), hr, hlocks⟩
  have hbA : ¬ (fun q : Nat => s.heap.size ≤ q) b := Nat.not_le.mpr hbl
  refine lv_aload_n hx hb dL_law_527 rfl (lv_at hl 1 rfl) ?_
  refine lv_aload_n hx hb dL_law_528 rfl (lv_at hl 0 rfl) ?_
  refine lv_iload_n hx hb dL_law_529 rfl (lv_at hl 3 rfl) ?_
  refine lv_iconst (v := (1 : Int32)) hx hb dL_law_530 (by decide) ?_
  refine lv_iadd hx hb dL_law_531 ?_
  refine va_sld hx hb hX0 hbl hbA hS (zidx (k := 1) hi hL rfl (by decide)) dL_law_532 ?_
  refine lv_aload_n hx hb dL_law_533 rfl (lv_at hl 0 rfl) ?_
  refine lv_iload_n hx hb dL_law_534 rfl (lv_at hl 3 rfl) ?_
  refine lv_iconst (v := (2 : Int32)) hx hb dL_law_535 (by decide) ?_
  refine lv_iadd hx hb dL_law_536 ?_
  refine va_sld hx hb hX0 hbl hbA hS (zidx (k := 2) hi hL rfl (by decide)) dL_law_537 ?_
  refine lv_aload_n hx hb dL_law_538 rfl (lv_at hl 0 rfl) ?_
  refine lv_iload_n hx hb dL_law_539 rfl (lv_at hl 3 rfl) ?_
  refine lv_iconst (v := (3 : Int32)) hx hb dL_law_540 (by decide) ?_
  refine lv_iadd hx hb dL_law_541 ?_
  refine va_sld hx hb hX0 hbl hbA hS (zidx (k := 3) hi hL rfl (by decide)) dL_law_542 ?_
  have hB0 := tB_of hG.2.2.2.1
  have hI0 := tBI_of hG.2.2.1
  refine gx_comes [] hcs C0 hbx hbm hK hO hG hS hl.1 (Nat.le_of_ble_eq_true rfl) kmL_54 dL_law_543 (fun r1 mi' ko' T' I' H locs cells' slots' hx1 e1 e2 hG1 hS1 => ?_)
  obtain ⟨rfl, rfl, rfl⟩ := hx1
  have hG := hG1
  have hS := hS1
  refine lv_pop hx hb dL_law_546 rfl ?_
  refine lv_aload_n hx hb dL_law_547 rfl (lv_at hl 2 rfl) ?_
  refine lv_aload_n hx hb dL_law_548 rfl (lv_at hl 0 rfl) ?_
  refine lv_iload_n hx hb dL_law_549 rfl (lv_at hl 3 rfl) ?_
  refine lv_iconst (v := (1 : Int32)) hx hb dL_law_550 (by decide) ?_
  refine lv_iadd hx hb dL_law_551 ?_
  refine va_sld hx hb hX0 hbl hbA hS (zidx (k := 1) hi hL rfl (by decide)) dL_law_552 ?_
  refine lv_aload_n hx hb dL_law_553 rfl (lv_at hl 0 rfl) ?_
  refine lv_iload_n hx hb dL_law_554 rfl (lv_at hl 3 rfl) ?_
  refine lv_iconst (v := (2 : Int32)) hx hb dL_law_555 (by decide) ?_
  refine lv_iadd hx hb dL_law_556 ?_
  refine va_sld hx hb hX0 hbl hbA hS (zidx (k := 2) hi hL rfl (by decide)) dL_law_557 ?_
  refine lv_aload_n hx hb dL_law_558 rfl (lv_at hl 0 rfl) ?_
  refine lv_iload_n hx hb dL_law_559 rfl (lv_at hl 3 rfl) ?_
  refine lv_iconst (v := (3 : Int32)) hx hb dL_law_560 (by decide) ?_
  refine lv_iadd hx hb dL_law_561 ?_
  refine va_sld hx hb hX0 hbl hbA hS (zidx (k := 3) hi hL rfl (by decide)) dL_law_562 ?_
  refine gm_comes [] ⟨Nat.le_trans e1 hcs.1, Nat.le_trans e2 hcs.2⟩ C0 hbx hbm hK hO hG hS hl.1 (Nat.le_of_ble_eq_true rfl) kmL_57 dL_law_563 (fun r2 M' H locs hm1 hG2 hS2 => ?_)
  obtain rfl := hm1
  have hG := hG2
  have hS := hS2
  refine lv_pop hx hb dL_law_566 rfl ?_
  refine lv_goto (tgt := 1647) hx hb dL_law_567 (by decide) ?_
  exact kk _ _ _ _ _ _ _ _ _ e1 e2 hR hG hS

set_option maxRecDepth 40000 in
set_option maxHeartbeats 4000000 in
theorem g_10 {p : Program} {l : Launch} {e : Env} {s : State} {m : MethodId} {below : List Frame} {meth : Method} {c : Code} {E : zE} {G : zG} {b L i bx bm cells slots : Nat} {xs : Nat → Int32} {mi : Nat → Option Nat} {ko : Option Nat} {T : TT} {M : Nat → Nat → Int32} {I : Nat → TT} {H : Heap} {locs : List Loc} {ls : Array Slot} (hi : i + 6 ≤ L) (hL : L ≤ 3072) (hR : RG T M I mi) (hcs : cells + 47 ≤ room_1.cells ∧ slots + 4608 ≤ room_1.slots) (C0 : lw_At p s m meth c b L xs) (hbx : s.heap.size ≤ bx) (hbm : bx + 93 ≤ bm) (hK : zK E s) (hO : zO s ∧ zZ G (fun q => s.heap.size ≤ q) s s.heap) (hG : GG E bx bm mi ko T M I H) (hS : va_S (fun q => s.heap.size ≤ q) s.heap H locs) (hl : lv_has ls 4 [(0, .ref b), (1, .ref bx), (2, .ref bm), (3, .int (nI i))])
    (kk : ∀ (mi : Nat → Option Nat) (ko : Option Nat) (T : TT) (M : Nat → Nat → Int32) (I : Nat → TT) (H : Heap) (locs : List Loc) (cells' slots' : Nat), cells' ≤ cells + 47 → slots' ≤ slots + 4608 → RG T M I mi → GG E bx bm mi ko T M I H → va_S (fun q => s.heap.size ≤ q) s.heap H locs → W p l e room_1 s m #[Value.ref b] below meth c H locs cells' slots' (lw_Z below #[Value.ref b] s) (F0 m 1647 ls [])) : W p l e room_1 s m #[Value.ref b] below meth c H locs cells slots (lw_Z below #[Value.ref b] s) (F0 m 570 ls []) := by
  obtain ⟨hx, hb, hr, hml, hown, hts, hX0, hbl, hlocks, hgv⟩ := id C0
  have zc : zC p s m #[Value.ref b] meth c cL_law 4 RL ret := ⟨hx, hb, hml, hown, fun w hw => hts w (zb_in hw), hr, hlocks⟩
  have hbA : ¬ (fun q : Nat => s.heap.size ≤ q) b := Nat.not_le.mpr hbl
  refine lv_aload_n hx hb dL_law_570 rfl (lv_at hl 1 rfl) ?_
  refine lv_aload_n hx hb dL_law_571 rfl (lv_at hl 0 rfl) ?_
  refine lv_iload_n hx hb dL_law_572 rfl (lv_at hl 3 rfl) ?_
  refine lv_iconst (v := (1 : Int32)) hx hb dL_law_573 (by decide) ?_
  refine lv_iadd hx hb dL_law_574 ?_
  refine va_sld hx hb hX0 hbl hbA hS (zidx (k := 1) hi hL rfl (by decide)) dL_law_575 ?_
  refine lv_aload_n hx hb dL_law_576 rfl (lv_at hl 0 rfl) ?_
  refine lv_iload_n hx hb dL_law_577 rfl (lv_at hl 3 rfl) ?_
  refine lv_iconst (v := (2 : Int32)) hx hb dL_law_578 (by decide) ?_
  refine lv_iadd hx hb dL_law_579 ?_
  refine va_sld hx hb hX0 hbl hbA hS (zidx (k := 2) hi hL rfl (by decide)) dL_law_580 ?_
  refine lv_aload_n hx hb dL_law_581 rfl (lv_at hl 0 rfl) ?_
  refine lv_iload_n hx hb dL_law_582 rfl (lv_at hl 3 rfl) ?_
  refine lv_iconst (v := (3 : Int32)) hx hb dL_law_583 (by decide) ?_
  refine lv_iadd hx hb dL_law_584 ?_
  refine va_sld hx hb hX0 hbl hbA hS (zidx (k := 3) hi hL rfl (by decide)) dL_law_585 ?_
  have hB0 := tB_of hG.2.2.2.1
  have hI0 := tBI_of hG.2.2.1
  refine gx_villages [] hcs C0 hbx hbm hK hO hG hS hl.1 (Nat.le_of_ble_eq_true rfl) kmL_58 dL_law_586 (fun r1 mi' ko' T' I' H locs cells' slots' hx1 e1 e2 hG1 hS1 => ?_)
  obtain ⟨rfl, rfl, rfl⟩ := hx1
  have hG := hG1
  have hS := hS1
  refine lv_pop hx hb dL_law_589 rfl ?_
  refine lv_aload_n hx hb dL_law_590 rfl (lv_at hl 2 rfl) ?_
  refine lv_aload_n hx hb dL_law_591 rfl (lv_at hl 0 rfl) ?_
  refine lv_iload_n hx hb dL_law_592 rfl (lv_at hl 3 rfl) ?_
  refine lv_iconst (v := (1 : Int32)) hx hb dL_law_593 (by decide) ?_
  refine lv_iadd hx hb dL_law_594 ?_
  refine va_sld hx hb hX0 hbl hbA hS (zidx (k := 1) hi hL rfl (by decide)) dL_law_595 ?_
  refine lv_aload_n hx hb dL_law_596 rfl (lv_at hl 0 rfl) ?_
  refine lv_iload_n hx hb dL_law_597 rfl (lv_at hl 3 rfl) ?_
  refine lv_iconst (v := (2 : Int32)) hx hb dL_law_598 (by decide) ?_
  refine lv_iadd hx hb dL_law_599 ?_
  refine va_sld hx hb hX0 hbl hbA hS (zidx (k := 2) hi hL rfl (by decide)) dL_law_600 ?_
  refine lv_aload_n hx hb dL_law_601 rfl (lv_at hl 0 rfl) ?_
  refine lv_iload_n hx hb dL_law_602 rfl (lv_at hl 3 rfl) ?_
  refine lv_iconst (v := (3 : Int32)) hx hb dL_law_603 (by decide) ?_
  refine lv_iadd hx hb dL_law_604 ?_
  refine va_sld hx hb hX0 hbl hbA hS (zidx (k := 3) hi hL rfl (by decide)) dL_law_605 ?_
  refine gm_villages [] ⟨Nat.le_trans e1 hcs.1, Nat.le_trans e2 hcs.2⟩ C0 hbx hbm hK hO hG hS hl.1 (Nat.le_of_ble_eq_true rfl) kmL_61 dL_law_606 (fun r2 M' H locs hm1 hG2 hS2 => ?_)
  obtain rfl := hm1
  have hG := hG2
  have hS := hS2
  refine lv_pop hx hb dL_law_609 rfl ?_
  refine lv_goto (tgt := 1647) hx hb dL_law_610 (by decide) ?_
  exact kk _ _ _ _ _ _ _ _ _ e1 e2 hR hG hS
end
