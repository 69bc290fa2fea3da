abbrev wk0L (E : zE) (qk qc : Nat) (o_stands : Option Nat) (a_gaps : Nat → Int32) (a_behind : Nat → Int32) (cf_voices : Int32) (cf_step : Int32) (ca_parts : Nat → Int32) (ca_heights : Nat → Int32) : va_W := [(qk, .inr (5, [va_rf o_stands, .ref (qk + 1), .ref (qk + 2)])), ((qk + 1), .inl (E.2 1, 81, .inl a_gaps)), ((qk + 2), .inl (E.2 1, 9, .inl a_behind)), (qc, .inr (0, [.int cf_voices, .int cf_step, .ref (qc + 1), .ref (qc + 2)])), ((qc + 1), .inl (E.2 1, 9, .inl ca_parts)), ((qc + 2), .inl (E.2 1, 9, .inl ca_heights))]
def wk0Q (qk qc : Nat) : Prop := (qk + 3 ≤ qc ∨ qc + 3 ≤ qk)
def wk0W (E : zE) (qk qc : Nat) (o_stands : Option Nat) (a_gaps : Nat → Int32) (a_behind : Nat → Int32) (cf_voices : Int32) (cf_step : Int32) (ca_parts : Nat → Int32) (ca_heights : Nat → Int32) (H : Heap) : Prop := va_P E.1 zcl (wk0L E qk qc o_stands a_gaps a_behind cf_voices cf_step ca_parts ca_heights) H ∧ wk0Q qk qc
def wk0A (qk qc : Nat) : Nat → Prop := fun a => (qk ≤ a ∧ a < qk + 3) ∨ (qc ≤ a ∧ a < qc + 3)
set_option maxRecDepth 20000 in
theorem wk0D (E : zE) (qk qc : Nat) (o_stands : Option Nat) (a_gaps : Nat → Int32) (a_behind : Nat → Int32) (cf_voices : Int32) (cf_step : Int32) (ca_parts : Nat → Int32) (ca_heights : Nat → Int32) (h : wk0Q qk qc) : va_D (wk0A qk qc) (wk0L E qk qc o_stands a_gaps a_behind cf_voices cf_step ca_parts ca_heights) := by
  refine zD_nd (as := [qk, (qk + 1), (qk + 2), qc, (qc + 1), (qc + 2)]) (by rfl) ?_ ?_
  · unfold wk0Q at h; simp; omega
  · intro a ha; simp at ha; unfold wk0A; omega
section
variable {p : Program} {l : Launch} {e : Env} {R : Room} {s : State} {m : MethodId} {args : Array Value} {below : List Frame} {meth : Method} {c : Code} {H : Heap} {locs : List Loc} {cells slots : Nat} {Q : State → Prop} {cc : ByteArray} {pc nL : Nat} {ls : Array Slot} {rest : List Value} {own : String} {ret : Option FieldType} {E : zE} {qk qc : Nat} {o_stands : Option Nat} {a_gaps : Nat → Int32} {a_behind : Nat → Int32} {cf_voices : Int32} {cf_step : Int32} {ca_parts : Nat → Int32} {ca_heights : Nat → Int32}
theorem wk0g_5_9_0 (zc : zC p s m args meth c cc nL RX5 ret) (hK : zK E s) (hM : wk0W E qk qc o_stands a_gaps a_behind cf_voices cf_step ca_parts ca_heights H) (hdg : decode cc pc = .ok (.getfield 9, 3)) (kk : W p l e R s m args below meth c H locs cells slots Q (F0 m (pc + 3) ls (.ref (qk + 1) :: rest))) : W p l e R s m args below meth c H locs cells slots Q (F0 m pc ls (.ref qk :: rest)) := by
  obtain ⟨hx, hb, hml, hown, hz, hr, hlk⟩ := zc
  exact va_get (D := E.1) (ci := 5) (v := .ref (qk + 1)) (C := RX5) (T := TX5) (N := 3) hx hb hz uw5 hown hK.1 hM.1 0 rfl rfl 1 (by decide) (hz _ kf_5_9) (fun _ h9 => h9) rfl hdg kk
theorem wk0g_5_15_0 (zc : zC p s m args meth c cc nL RX5 ret) (hK : zK E s) (hM : wk0W E qk qc o_stands a_gaps a_behind cf_voices cf_step ca_parts ca_heights H) (hdg : decode cc pc = .ok (.getfield 15, 3)) (kk : W p l e R s m args below meth c H locs cells slots Q (F0 m (pc + 3) ls (.ref (qk + 2) :: rest))) : W p l e R s m args below meth c H locs cells slots Q (F0 m pc ls (.ref qk :: rest)) := by
  obtain ⟨hx, hb, hml, hown, hz, hr, hlk⟩ := zc
  exact va_get (D := E.1) (ci := 5) (v := .ref (qk + 2)) (C := RX5) (T := TX5) (N := 3) hx hb hz uw5 hown hK.1 hM.1 0 rfl rfl 2 (by decide) (hz _ kf_5_15) (fun _ h9 => h9) rfl hdg kk
theorem wk0g_5_26_3 (zc : zC p s m args meth c cc nL RX5 ret) (hK : zK E s) (hM : wk0W E qk qc o_stands a_gaps a_behind cf_voices cf_step ca_parts ca_heights H) (hdg : decode cc pc = .ok (.getfield 26, 3)) (kk : W p l e R s m args below meth c H locs cells slots Q (F0 m (pc + 3) ls (.int cf_voices :: rest))) : W p l e R s m args below meth c H locs cells slots Q (F0 m pc ls (.ref qc :: rest)) := by
  obtain ⟨hx, hb, hml, hown, hz, hr, hlk⟩ := zc
  exact va_get (D := E.1) (ci := 0) (v := .int cf_voices) (C := RX0) (T := TX0) (N := 4) hx hb hz uw0 hown hK.1 hM.1 3 rfl rfl 0 (by decide) (hz _ kf_5_26) (fun _ h9 => h9) rfl hdg kk
theorem wk0g_5_44_3 (zc : zC p s m args meth c cc nL RX5 ret) (hK : zK E s) (hM : wk0W E qk qc o_stands a_gaps a_behind cf_voices cf_step ca_parts ca_heights H) (hdg : decode cc pc = .ok (.getfield 44, 3)) (kk : W p l e R s m args below meth c H locs cells slots Q (F0 m (pc + 3) ls (.int cf_step :: rest))) : W p l e R s m args below meth c H locs cells slots Q (F0 m pc ls (.ref qc :: rest)) := by
  obtain ⟨hx, hb, hml, hown, hz, hr, hlk⟩ := zc
  exact va_get (D := E.1) (ci := 0) (v := .int cf_step) (C := RX0) (T := TX0) (N := 4) hx hb hz uw0 hown hK.1 hM.1 3 rfl rfl 1 (by decide) (hz _ kf_5_44) (fun _ h9 => h9) rfl hdg kk
theorem wk0ld_1 {i : Int32} (zc : zC p s m args meth c cc nL own ret) (hK : zK E s) (hM : wk0W E qk qc o_stands a_gaps a_behind cf_voices cf_step ca_parts ca_heights H) (hin : vp_in i 81) (hdg : decode cc pc = .ok (.iaload, 1)) (kk : W p l e R s m args below meth c H locs cells slots Q (F0 m (pc + 1) ls (.int (a_gaps i.toNatClampNeg) :: rest))) : W p l e R s m args below meth c H locs cells slots Q (F0 m pc ls (.int i :: .ref (qk + 1) :: rest)) := by
  obtain ⟨hx, hb, hml, hown, hz, hr, hlk⟩ := zc
  exact va_iald hx hb hK.1 hM.1 1 1 rfl rfl hin hdg kk
theorem wk0st_1 {i : Int32} {x : Int32} (zc : zC p s m args meth c cc nL own ret) (hK : zK E s) (hM : wk0W E qk qc o_stands a_gaps a_behind cf_voices cf_step ca_parts ca_heights H) (hS : va_S (wk0A qk qc) s.heap H locs) (hin : vp_in i 81) (hdg : decode cc pc = .ok (.iastore, 1)) (kk : ∀ (g : Nat → Int32) (H1 : Heap) (locs1 : List Loc), g = upd a_gaps i.toNatClampNeg x → wk0W E qk qc o_stands g a_behind cf_voices cf_step ca_parts ca_heights H1 → va_S (wk0A qk qc) s.heap H1 locs1 → W p l e R s m args below meth c H1 locs1 cells slots Q (F0 m (pc + 1) ls rest)) : W p l e R s m args below meth c H locs cells slots Q (F0 m pc ls (.int x :: .int i :: .ref (qk + 1) :: rest)) := by
  obtain ⟨hx, hb, hml, hown, hz, hr, hlk⟩ := zc
  exact va_iast hx hb hK.1 hM.1 (wk0D E qk qc o_stands a_gaps a_behind cf_voices cf_step ca_parts ca_heights hM.2) hS 1 1 rfl rfl hin hdg (fun H1 locs1 hP _ hS => kk _ H1 locs1 rfl ⟨hP, hM.2⟩ hS)
theorem wk0ld_2 {i : Int32} (zc : zC p s m args meth c cc nL own ret) (hK : zK E s) (hM : wk0W E qk qc o_stands a_gaps a_behind cf_voices cf_step ca_parts ca_heights H) (hin : vp_in i 9) (hdg : decode cc pc = .ok (.iaload, 1)) (kk : W p l e R s m args below meth c H locs cells slots Q (F0 m (pc + 1) ls (.int (a_behind i.toNatClampNeg) :: rest))) : W p l e R s m args below meth c H locs cells slots Q (F0 m pc ls (.int i :: .ref (qk + 2) :: rest)) := by
  obtain ⟨hx, hb, hml, hown, hz, hr, hlk⟩ := zc
  exact va_iald hx hb hK.1 hM.1 2 1 rfl rfl hin hdg kk
theorem wk0st_2 {i : Int32} {x : Int32} (zc : zC p s m args meth c cc nL own ret) (hK : zK E s) (hM : wk0W E qk qc o_stands a_gaps a_behind cf_voices cf_step ca_parts ca_heights H) (hS : va_S (wk0A qk qc) s.heap H locs) (hin : vp_in i 9) (hdg : decode cc pc = .ok (.iastore, 1)) (kk : ∀ (g : Nat → Int32) (H1 : Heap) (locs1 : List Loc), g = upd a_behind i.toNatClampNeg x → wk0W E qk qc o_stands a_gaps g cf_voices cf_step ca_parts ca_heights H1 → va_S (wk0A qk qc) s.heap H1 locs1 → W p l e R s m args below meth c H1 locs1 cells slots Q (F0 m (pc + 1) ls rest)) : W p l e R s m args below meth c H locs cells slots Q (F0 m pc ls (.int x :: .int i :: .ref (qk + 2) :: rest)) := by
  obtain ⟨hx, hb, hml, hown, hz, hr, hlk⟩ := zc
  exact va_iast hx hb hK.1 hM.1 (wk0D E qk qc o_stands a_gaps a_behind cf_voices cf_step ca_parts ca_heights hM.2) hS 2 1 rfl rfl hin hdg (fun H1 locs1 hP _ hS => kk _ H1 locs1 rfl ⟨hP, hM.2⟩ hS)
theorem wk0ld_4 {i : Int32} (zc : zC p s m args meth c cc nL own ret) (hK : zK E s) (hM : wk0W E qk qc o_stands a_gaps a_behind cf_voices cf_step ca_parts ca_heights H) (hin : vp_in i 9) (hdg : decode cc pc = .ok (.iaload, 1)) (kk : W p l e R s m args below meth c H locs cells slots Q (F0 m (pc + 1) ls (.int (ca_parts i.toNatClampNeg) :: rest))) : W p l e R s m args below meth c H locs cells slots Q (F0 m pc ls (.int i :: .ref (qc + 1) :: rest)) := by
  obtain ⟨hx, hb, hml, hown, hz, hr, hlk⟩ := zc
  exact va_iald hx hb hK.1 hM.1 4 1 rfl rfl hin hdg kk
theorem wk0st_4 {i : Int32} {x : Int32} (zc : zC p s m args meth c cc nL own ret) (hK : zK E s) (hM : wk0W E qk qc o_stands a_gaps a_behind cf_voices cf_step ca_parts ca_heights H) (hS : va_S (wk0A qk qc) s.heap H locs) (hin : vp_in i 9) (hdg : decode cc pc = .ok (.iastore, 1)) (kk : ∀ (g : Nat → Int32) (H1 : Heap) (locs1 : List Loc), g = upd ca_parts i.toNatClampNeg x → wk0W E qk qc o_stands a_gaps a_behind cf_voices cf_step g ca_heights H1 → va_S (wk0A qk qc) s.heap H1 locs1 → W p l e R s m args below meth c H1 locs1 cells slots Q (F0 m (pc + 1) ls rest)) : W p l e R s m args below meth c H locs cells slots Q (F0 m pc ls (.int x :: .int i :: .ref (qc + 1) :: rest)) := by
  obtain ⟨hx, hb, hml, hown, hz, hr, hlk⟩ := zc
  exact va_iast hx hb hK.1 hM.1 (wk0D E qk qc o_stands a_gaps a_behind cf_voices cf_step ca_parts ca_heights hM.2) hS 4 1 rfl rfl hin hdg (fun H1 locs1 hP _ hS => kk _ H1 locs1 rfl ⟨hP, hM.2⟩ hS)
theorem wk0ld_5 {i : Int32} (zc : zC p s m args meth c cc nL own ret) (hK : zK E s) (hM : wk0W E qk qc o_stands a_gaps a_behind cf_voices cf_step ca_parts ca_heights H) (hin : vp_in i 9) (hdg : decode cc pc = .ok (.iaload, 1)) (kk : W p l e R s m args below meth c H locs cells slots Q (F0 m (pc + 1) ls (.int (ca_heights i.toNatClampNeg) :: rest))) : W p l e R s m args below meth c H locs cells slots Q (F0 m pc ls (.int i :: .ref (qc + 2) :: rest)) := by
  obtain ⟨hx, hb, hml, hown, hz, hr, hlk⟩ := zc
  exact va_iald hx hb hK.1 hM.1 5 1 rfl rfl hin hdg kk
theorem wk0st_5 {i : Int32} {x : Int32} (zc : zC p s m args meth c cc nL own ret) (hK : zK E s) (hM : wk0W E qk qc o_stands a_gaps a_behind cf_voices cf_step ca_parts ca_heights H) (hS : va_S (wk0A qk qc) s.heap H locs) (hin : vp_in i 9) (hdg : decode cc pc = .ok (.iastore, 1)) (kk : ∀ (g : Nat → Int32) (H1 : Heap) (locs1 : List Loc), g = upd ca_heights i.toNatClampNeg x → wk0W E qk qc o_stands a_gaps a_behind cf_voices cf_step ca_parts g H1 → va_S (wk0A qk qc) s.heap H1 locs1 → W p l e R s m args below meth c H1 locs1 cells slots Q (F0 m (pc + 1) ls rest)) : W p l e R s m args below meth c H locs cells slots Q (F0 m pc ls (.int x :: .int i :: .ref (qc + 2) :: rest)) := by
  obtain ⟨hx, hb, hml, hown, hz, hr, hlk⟩ := zc
  exact va_iast hx hb hK.1 hM.1 (wk0D E qk qc o_stands a_gaps a_behind cf_voices cf_step ca_parts ca_heights hM.2) hS 5 1 rfl rfl hin hdg (fun H1 locs1 hP _ hS => kk _ H1 locs1 rfl ⟨hP, hM.2⟩ hS)
end
section
variable {s : State} {H : Heap} {E : zE} {qk qc : Nat} {o_stands : Option Nat} {a_gaps : Nat → Int32} {a_behind : Nat → Int32} {cf_voices : Int32} {cf_step : Int32} {ca_parts : Nat → Int32} {ca_heights : Nat → Int32}
theorem wk0FB {av : List Value} : FrameBlind (va_Pc av (fun U => wk0W E qk qc o_stands a_gaps a_behind cf_voices cf_step ca_parts ca_heights U.heap ∧ zK E U)) := fun a U gg mk h => ⟨h.1, h.2.1, zK_calling h.2.2⟩
theorem wk0PreV0 {As : List Value} (hK : zK E s) (hM : wk0W E qk qc o_stands a_gaps a_behind cf_voices cf_step ca_parts ca_heights H) : PreV s H RX5 qk (va_Pc (.ref qk :: As) (fun U => wk0W E qk qc o_stands a_gaps a_behind cf_voices cf_step ca_parts ca_heights U.heap ∧ zK E U)) As := ⟨wk0FB, va_recv hK.1 hM.1 (ci := 5) (q0 := 0) rfl rfl, fun U hU hW => ⟨rfl, by rw [hU]; exact hM, zK_moved hW hK⟩⟩
theorem wk0PreS {As : List Value} (hK : zK E s) (hM : wk0W E qk qc o_stands a_gaps a_behind cf_voices cf_step ca_parts ca_heights H) : PreS s H (va_Pc As (fun U => wk0W E qk qc o_stands a_gaps a_behind cf_voices cf_step ca_parts ca_heights U.heap ∧ zK E U)) As := ⟨wk0FB, fun U hU hW => ⟨rfl, by rw [hU]; exact hM, zK_moved hW hK⟩⟩
end
set_option maxRecDepth 20000 in
theorem pj_wk0_wc_3 {H : Heap} {E : zE} {qk qc : Nat} {o_stands : Option Nat} {a_gaps : Nat → Int32} {a_behind : Nat → Int32} {cf_voices : Int32} {cf_step : Int32} {ca_parts : Nat → Int32} {ca_heights : Nat → Int32} (h : wk0W E qk qc o_stands a_gaps a_behind cf_voices cf_step ca_parts ca_heights H) : wcW E qc cf_voices cf_step ca_parts ca_heights H := va_P.sub h.1 [3, 4, 5] rfl
theorem sb_wk0_wc_3 {qk qc : Nat} : ∀ q, wcA qc q → wk0A qk qc q := by
  intro q h
  unfold wcA zR at h; unfold wk0A
  omega
set_option maxRecDepth 40000 in
set_option maxHeartbeats 4000000 in
theorem jn_wk0_wc_3 {H H1 : Heap} {E : zE} {qk qc : Nat} {o_stands : Option Nat} {a_gaps : Nat → Int32} {a_behind : Nat → Int32} {cf_voices : Int32} {cf_step : Int32} {ca_parts : Nat → Int32} {ca_heights : Nat → Int32} {f_voices' : Int32} {f_step' : Int32} {a_parts' : Nat → Int32} {a_heights' : Nat → Int32} (h : wk0W E qk qc o_stands a_gaps a_behind cf_voices cf_step ca_parts ca_heights H) (h1 : wcW E qc f_voices' f_step' a_parts' a_heights' H1) (hk : ∀ q : Nat, q < H.size → ¬ wcA qc q → H1[q]? = H[q]?) : wk0W E qk qc o_stands a_gaps a_behind f_voices' f_step' a_parts' a_heights' H1 := by
  have hr : va_P E.1 zcl [(qk, .inr (5, [va_rf o_stands, .ref (qk + 1), .ref (qk + 2)])), ((qk + 1), .inl (E.2 1, 81, .inl a_gaps)), ((qk + 2), .inl (E.2 1, 9, .inl a_behind))] H1 := by
    refine zkeep (va_P.sub h.1 [0, 1, 2] rfl) hk [qk, (qk + 1), (qk + 2)] rfl ?_
    have hq := h.2; unfold wk0Q at hq; intro a ha hA
    simp only [List.mem_cons, List.not_mem_nil, or_false] at ha
    unfold wcA zR at hA
    omega
  exact ⟨va_P.sub (va_P.app hr h1) [0, 1, 2, 3, 4, 5] rfl, h.2⟩
