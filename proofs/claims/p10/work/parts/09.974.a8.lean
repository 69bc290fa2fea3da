set_option maxRecDepth 20000 in
theorem e_land_0 {tp B rd td : Nat → Int32} {n r : Nat} {va wr fa pl fh fs : Int32} {wd : Int64} {post : Int32 → Int32 → Int32 → Int32 → Int32 → Int64 → Int32 → Int32 → Int32 → (Nat → Int32) → (Nat → Int32) → Int32 → Int32 → Int32 → Prop} (hn : n ≤ 600) (hr : r ≤ n) (hB : ∀ j, j < n → tp j = B j) (hb : ∀ j, iv (-128) 127 (B j)) (hlp : ¬ fa = 0 → pl < (nI (tF B n r))) (hK0 : ¬ tK B n r = 0) (hC : CB 0 td)
    (hF : ∀ j, 1 ≤ j → j ≤ 1 → ¬ tK B n (ps B n r j) = 2 → (∀ i, 1 ≤ i → i < j → tK B n (ps B n r i) = 2) → ∀ (re be so va : Int32) (wd : Int64) (lf lp : Int32) (td rd : Nat → Int32) (fh fs : Int32) (gd : Int32), post 0 re be so va wd (nI (tF B n (ps B n r j))) lf lp td rd fh fs gd)
    (hT : (∀ j, 1 ≤ j → j ≤ 1 → tK B n (ps B n r j) = 2) → ∀ (va' : Int32) (wd' : Int64) (rd' : Nat → Int32) (gd' : Int32), (¬ mkF B n r 0 td fa 1 = 0 → mkP B n r 0 td fa pl 1 < (nI (tF B n (ps B n r 2)))) → post 1 (nI (tN B n (ps B n r 2))) (nI (tF B n (ps B n r 2))) (sI (tK B n (ps B n r 2))) va' wd' wr (mkF B n r 0 td fa 1) (mkP B n r 0 td fa pl 1) (lD 0 (gd B n r 0 1) (tV B n (ps B n r 1)) (tV B n (ps B n r 2)) (tV B n (ps B n r 3)) td) rd' (lH 0 (tV B n (ps B n r 1)) (tV B n (ps B n r 2)) fh) (lS 0 (tV B n (ps B n r 1)) fs) gd') : q_m_landLine_0 tp (nI (tN B n r)) (nI n) (nI (tF B n r)) (sI (tK B n r)) va wd wr fa pl td rd fh fs 1 (lN 6845812) (nI (tF B n r)) post := by
  have hF1 := tF_nx hr hK0
  have htk := tk_le (B := B) hr
  have hl1 : ¬ mkF B n r 0 td fa 0 = 0 → mkP B n r 0 td fa pl 0 < nI (tF B n (tN B n r)) := LP_n hlp hF1.1 (by omega)
  have st : q_m_landLine_60 tp (nI (tN B n r)) (nI n) (nI (tF B n r)) (sI (tK B n r)) va wd wr (mkF B n r 0 td fa 0) (mkP B n r 0 td fa pl 0) td rd fh fs 1 (lN 6845812) post := by
    refine e_tok (r := tN B n r) hn htk.2.1 hB hb (fun v1 w1 hv1 _ => ?_)
    refine ⟨fun h9 => absurd h9 (by decide +kernel), fun _ => ?_⟩
    exact e_hutLine hn hr hB hb hv1 hl1 hC.1 (fun j a b c d re be so va wd lf lp td rd gd => ⟨rfl, hF j a b c d re be so va wd lf lp td rd fh fs gd⟩) (fun hk va2 wd2 rd2 gd2 hl => ⟨rfl, hT hk va2 wd2 rd2 gd2 hl⟩)
  exact ⟨fun _ => io ⟨fun h9 => absurd h9 (by decide +kernel), fun _ => e_full (c := 0) (b := fu 0 td) (by omega) (by simp [fu]) hlp ⟨fun _ => ⟨fun _ => st, fun h9 => absurd h9 (by decide +kernel)⟩, fun h9 => absurd h9 (by decide +kernel)⟩⟩, fun h9 => absurd h9 (by decide +kernel)⟩
set_option maxRecDepth 20000 in
theorem e_land_1 {tp B rd td : Nat → Int32} {n r : Nat} {va wr fa pl fh fs : Int32} {wd : Int64} {post : Int32 → Int32 → Int32 → Int32 → Int32 → Int64 → Int32 → Int32 → Int32 → (Nat → Int32) → (Nat → Int32) → Int32 → Int32 → Int32 → Prop} (hn : n ≤ 600) (hr : r ≤ n) (hB : ∀ j, j < n → tp j = B j) (hb : ∀ j, iv (-128) 127 (B j)) (hlp : ¬ fa = 0 → pl < (nI (tF B n r))) (hK0 : ¬ tK B n r = 0) (hC : CB 0 td)
    (hF : ∀ j, 1 ≤ j → j ≤ 1 → ¬ tK B n (ps B n r j) = 2 → (∀ i, 1 ≤ i → i < j → tK B n (ps B n r i) = 2) → ∀ (re be so va : Int32) (wd : Int64) (lf lp : Int32) (td rd : Nat → Int32) (fh fs : Int32) (gd : Int32), post 0 re be so va wd (nI (tF B n (ps B n r j))) lf lp td rd fh fs gd)
    (hT : (∀ j, 1 ≤ j → j ≤ 1 → tK B n (ps B n r j) = 2) → ∀ (va' : Int32) (wd' : Int64) (rd' : Nat → Int32) (gd' : Int32), (¬ mkF B n r 1 td fa 1 = 0 → mkP B n r 1 td fa pl 1 < (nI (tF B n (ps B n r 2)))) → post 1 (nI (tN B n (ps B n r 2))) (nI (tF B n (ps B n r 2))) (sI (tK B n (ps B n r 2))) va' wd' wr (mkF B n r 1 td fa 1) (mkP B n r 1 td fa pl 1) (lD 1 (gd B n r 1 1) (tV B n (ps B n r 1)) (tV B n (ps B n r 2)) (tV B n (ps B n r 3)) td) rd' (lH 1 (tV B n (ps B n r 1)) (tV B n (ps B n r 2)) fh) (lS 1 (tV B n (ps B n r 1)) fs) gd') : q_m_landLine_0 tp (nI (tN B n r)) (nI n) (nI (tF B n r)) (sI (tK B n r)) va wd wr fa pl td rd fh fs 1 (lN 33329961647564645) (nI (tF B n r)) post := by
  have hF1 := tF_nx hr hK0
  have htk := tk_le (B := B) hr
  have hl1 : ¬ mkF B n r 1 td fa 0 = 0 → mkP B n r 1 td fa pl 0 < nI (tF B n (tN B n r)) := LP_n hlp hF1.1 (by omega)
  have st : q_m_landLine_60 tp (nI (tN B n r)) (nI n) (nI (tF B n r)) (sI (tK B n r)) va wd wr (mkF B n r 1 td fa 0) (mkP B n r 1 td fa pl 0) td rd fh fs 1 (lN 33329961647564645) post := by
    refine e_tok (r := tN B n r) hn htk.2.1 hB hb (fun v1 w1 hv1 _ => ?_)
    refine ⟨fun _ => ⟨fun _ => ⟨fun h9 => absurd h9 (by decide +kernel), fun _ => ?_⟩, fun h9 => absurd h9 (by decide +kernel)⟩, fun h9 => absurd h9 (by decide +kernel)⟩
    exact e_bitLine_1 hn hr hB hb hv1 hl1 (fun j a b c d re be so va wd lf lp td rd fh gd => ⟨rfl, hF j a b c d re be so va wd lf lp td rd fh fs gd⟩) (fun hk va2 wd2 rd2 gd2 hl => ⟨rfl, hT hk va2 wd2 rd2 gd2 hl⟩)
  have hfu : fu 1 td = false := by simp [fu]
  have e1 : mkF B n r 1 td fa 0 = fa := by show mF (!fu 1 td) fa 3 = fa; rw [hfu]; rfl
  have e2 : mkP B n r 1 td fa pl 0 = pl := by show mP (!fu 1 td) fa pl _ = pl; rw [hfu]; rfl
  rw [e1, e2] at st
  exact ⟨fun h9 => absurd h9 (by decide +kernel), fun _ => ⟨fun _ => io ⟨fun _ => ⟨fun _ => ⟨fun _ => st, fun h9 => absurd h9 (by decide +kernel)⟩, fun h9 => absurd h9 (by decide +kernel)⟩, fun h9 => absurd h9 (by decide +kernel)⟩, fun h9 => absurd h9 (by decide +kernel)⟩⟩
set_option maxRecDepth 20000 in
theorem e_land_2 {tp B rd td : Nat → Int32} {n r : Nat} {va wr fa pl fh fs : Int32} {wd : Int64} {post : Int32 → Int32 → Int32 → Int32 → Int32 → Int64 → Int32 → Int32 → Int32 → (Nat → Int32) → (Nat → Int32) → Int32 → Int32 → Int32 → Prop} (hn : n ≤ 600) (hr : r ≤ n) (hB : ∀ j, j < n → tp j = B j) (hb : ∀ j, iv (-128) 127 (B j)) (hlp : ¬ fa = 0 → pl < (nI (tF B n r))) (hK0 : ¬ tK B n r = 0) (hC : CB 0 td)
    (hF : ∀ j, 1 ≤ j → j ≤ 1 → ¬ tK B n (ps B n r j) = 2 → (∀ i, 1 ≤ i → i < j → tK B n (ps B n r i) = 2) → ∀ (re be so va : Int32) (wd : Int64) (lf lp : Int32) (td rd : Nat → Int32) (fh fs : Int32) (gd : Int32), post 0 re be so va wd (nI (tF B n (ps B n r j))) lf lp td rd fh fs gd)
    (hT : (∀ j, 1 ≤ j → j ≤ 1 → tK B n (ps B n r j) = 2) → ∀ (va' : Int32) (wd' : Int64) (rd' : Nat → Int32) (gd' : Int32), (¬ mkF B n r 2 td fa 1 = 0 → mkP B n r 2 td fa pl 1 < (nI (tF B n (ps B n r 2)))) → post 1 (nI (tN B n (ps B n r 2))) (nI (tF B n (ps B n r 2))) (sI (tK B n (ps B n r 2))) va' wd' wr (mkF B n r 2 td fa 1) (mkP B n r 2 td fa pl 1) (lD 2 (gd B n r 2 1) (tV B n (ps B n r 1)) (tV B n (ps B n r 2)) (tV B n (ps B n r 3)) td) rd' (lH 2 (tV B n (ps B n r 1)) (tV B n (ps B n r 2)) fh) (lS 2 (tV B n (ps B n r 1)) fs) gd') : q_m_landLine_0 tp (nI (tN B n r)) (nI n) (nI (tF B n r)) (sI (tK B n r)) va wd wr fa pl td rd fh fs 1 (lN 6578541) (nI (tF B n r)) post := by
  have hF1 := tF_nx hr hK0
  have htk := tk_le (B := B) hr
  have hl1 : ¬ mkF B n r 2 td fa 0 = 0 → mkP B n r 2 td fa pl 0 < nI (tF B n (tN B n r)) := LP_n hlp hF1.1 (by omega)
  have st : q_m_landLine_60 tp (nI (tN B n r)) (nI n) (nI (tF B n r)) (sI (tK B n r)) va wd wr (mkF B n r 2 td fa 0) (mkP B n r 2 td fa pl 0) td rd fh fs 1 (lN 6578541) post := by
    refine e_tok (r := tN B n r) hn htk.2.1 hB hb (fun v1 w1 hv1 _ => ?_)
    refine ⟨fun _ => ⟨fun h9 => absurd h9 (by decide +kernel), fun _ => ⟨fun h9 => absurd h9 (by decide +kernel), fun _ => ⟨fun _ => ?_, fun h9 => absurd h9 (by decide +kernel)⟩⟩⟩, fun h9 => absurd h9 (by decide +kernel)⟩
    exact e_bitLine_2 hn hr hB hb hv1 hl1 (fun j a b c d re be so va wd lf lp td rd fh gd => ⟨rfl, hF j a b c d re be so va wd lf lp td rd fh fs gd⟩) (fun hk va2 wd2 rd2 gd2 hl => ⟨rfl, hT hk va2 wd2 rd2 gd2 hl⟩)
  have hfu : fu 2 td = false := by simp [fu]
  have e1 : mkF B n r 2 td fa 0 = fa := by show mF (!fu 2 td) fa 3 = fa; rw [hfu]; rfl
  have e2 : mkP B n r 2 td fa pl 0 = pl := by show mP (!fu 2 td) fa pl _ = pl; rw [hfu]; rfl
  rw [e1, e2] at st
  exact ⟨fun h9 => absurd h9 (by decide +kernel), fun _ => ⟨fun h9 => absurd h9 (by decide +kernel), fun _ => ⟨fun _ => io ⟨fun _ => ⟨fun _ => ⟨fun _ => st, fun h9 => absurd h9 (by decide +kernel)⟩, fun h9 => absurd h9 (by decide +kernel)⟩, fun h9 => absurd h9 (by decide +kernel)⟩, fun h9 => absurd h9 (by decide +kernel)⟩⟩⟩
set_option maxRecDepth 20000 in
theorem e_land_3 {tp B rd td : Nat → Int32} {n r : Nat} {va wr fa pl fh fs : Int32} {wd : Int64} {post : Int32 → Int32 → Int32 → Int32 → Int32 → Int64 → Int32 → Int32 → Int32 → (Nat → Int32) → (Nat → Int32) → Int32 → Int32 → Int32 → Prop} (hn : n ≤ 600) (hr : r ≤ n) (hB : ∀ j, j < n → tp j = B j) (hb : ∀ j, iv (-128) 127 (B j)) (hlp : ¬ fa = 0 → pl < (nI (tF B n r))) (hK0 : ¬ tK B n r = 0) (hC : CB 0 td)
    (hF : ∀ j, 1 ≤ j → j ≤ 1 → ¬ tK B n (ps B n r j) = 2 → (∀ i, 1 ≤ i → i < j → tK B n (ps B n r i) = 2) → ∀ (re be so va : Int32) (wd : Int64) (lf lp : Int32) (td rd : Nat → Int32) (fh fs : Int32) (gd : Int32), post 0 re be so va wd (nI (tF B n (ps B n r j))) lf lp td rd fh fs gd)
    (hT : (∀ j, 1 ≤ j → j ≤ 1 → tK B n (ps B n r j) = 2) → ∀ (va' : Int32) (wd' : Int64) (rd' : Nat → Int32) (gd' : Int32), (¬ mkF B n r 3 td fa 1 = 0 → mkP B n r 3 td fa pl 1 < (nI (tF B n (ps B n r 2)))) → post 1 (nI (tN B n (ps B n r 2))) (nI (tF B n (ps B n r 2))) (sI (tK B n (ps B n r 2))) va' wd' wr (mkF B n r 3 td fa 1) (mkP B n r 3 td fa pl 1) (lD 3 (gd B n r 3 1) (tV B n (ps B n r 1)) (tV B n (ps B n r 2)) (tV B n (ps B n r 3)) td) rd' (lH 3 (tV B n (ps B n r 1)) (tV B n (ps B n r 2)) fh) (lS 3 (tV B n (ps B n r 1)) fs) gd') : q_m_landLine_0 tp (nI (tN B n r)) (nI n) (nI (tF B n r)) (sI (tK B n r)) va wd wr fa pl td rd fh fs 1 (lN 1684366704) (nI (tF B n r)) post := by
  have hF1 := tF_nx hr hK0
  have htk := tk_le (B := B) hr
  have hl1 : ¬ mkF B n r 3 td fa 0 = 0 → mkP B n r 3 td fa pl 0 < nI (tF B n (tN B n r)) := LP_n hlp hF1.1 (by omega)
  have st : q_m_landLine_60 tp (nI (tN B n r)) (nI n) (nI (tF B n r)) (sI (tK B n r)) va wd wr (mkF B n r 3 td fa 0) (mkP B n r 3 td fa pl 0) td rd fh fs 1 (lN 1684366704) post := by
    refine e_tok (r := tN B n r) hn htk.2.1 hB hb (fun v1 w1 hv1 _ => ?_)
    refine ⟨fun _ => ⟨fun h9 => absurd h9 (by decide +kernel), fun _ => ⟨fun _ => ⟨fun h9 => absurd h9 (by decide +kernel), fun _ => ?_⟩, fun h9 => absurd h9 (by decide +kernel)⟩⟩, fun h9 => absurd h9 (by decide +kernel)⟩
    exact e_plainLine_3 hn hr hB hb hv1 hl1 (fun j a b c d re be so va wd lf lp td rd gd => ⟨rfl, hF j a b c d re be so va wd lf lp td rd fh fs gd⟩) (fun hk va2 wd2 rd2 gd2 hl => ⟨rfl, hT hk va2 wd2 rd2 gd2 hl⟩)
  have hfu : fu 3 td = false := by simp [fu]
  have e1 : mkF B n r 3 td fa 0 = fa := by show mF (!fu 3 td) fa 3 = fa; rw [hfu]; rfl
  have e2 : mkP B n r 3 td fa pl 0 = pl := by show mP (!fu 3 td) fa pl _ = pl; rw [hfu]; rfl
  rw [e1, e2] at st
  exact ⟨fun h9 => absurd h9 (by decide +kernel), fun _ => ⟨fun h9 => absurd h9 (by decide +kernel), fun _ => ⟨fun h9 => absurd h9 (by decide +kernel), fun _ => ⟨fun _ => io ⟨fun _ => ⟨fun _ => ⟨fun _ => st, fun h9 => absurd h9 (by decide +kernel)⟩, fun h9 => absurd h9 (by decide +kernel)⟩, fun h9 => absurd h9 (by decide +kernel)⟩, fun h9 => absurd h9 (by decide +kernel)⟩⟩⟩⟩
set_option maxRecDepth 20000 in
theorem e_land_4 {tp B rd td : Nat → Int32} {n r : Nat} {va wr fa pl fh fs : Int32} {wd : Int64} {post : Int32 → Int32 → Int32 → Int32 → Int32 → Int64 → Int32 → Int32 → Int32 → (Nat → Int32) → (Nat → Int32) → Int32 → Int32 → Int32 → Prop} (hn : n ≤ 600) (hr : r ≤ n) (hB : ∀ j, j < n → tp j = B j) (hb : ∀ j, iv (-128) 127 (B j)) (hlp : ¬ fa = 0 → pl < (nI (tF B n r))) (hK0 : ¬ tK B n r = 0) (hC : CB 0 td)
    (hF : ∀ j, 1 ≤ j → j ≤ 1 → ¬ tK B n (ps B n r j) = 2 → (∀ i, 1 ≤ i → i < j → tK B n (ps B n r i) = 2) → ∀ (re be so va : Int32) (wd : Int64) (lf lp : Int32) (td rd : Nat → Int32) (fh fs : Int32) (gd : Int32), post 0 re be so va wd (nI (tF B n (ps B n r j))) lf lp td rd fh fs gd)
    (hT : (∀ j, 1 ≤ j → j ≤ 1 → tK B n (ps B n r j) = 2) → ∀ (va' : Int32) (wd' : Int64) (rd' : Nat → Int32) (gd' : Int32), (¬ mkF B n r 4 td fa 1 = 0 → mkP B n r 4 td fa pl 1 < (nI (tF B n (ps B n r 2)))) → post 1 (nI (tN B n (ps B n r 2))) (nI (tF B n (ps B n r 2))) (sI (tK B n (ps B n r 2))) va' wd' wr (mkF B n r 4 td fa 1) (mkP B n r 4 td fa pl 1) (lD 4 (gd B n r 4 1) (tV B n (ps B n r 1)) (tV B n (ps B n r 2)) (tV B n (ps B n r 3)) td) rd' (lH 4 (tV B n (ps B n r 1)) (tV B n (ps B n r 2)) fh) (lS 4 (tV B n (ps B n r 1)) fs) gd') : q_m_landLine_0 tp (nI (tN B n r)) (nI n) (nI (tF B n r)) (sI (tK B n r)) va wd wr fa pl td rd fh fs 1 (lN 495740085349) (nI (tF B n r)) post := by
  have hF1 := tF_nx hr hK0
  have htk := tk_le (B := B) hr
  have hl1 : ¬ mkF B n r 4 td fa 0 = 0 → mkP B n r 4 td fa pl 0 < nI (tF B n (tN B n r)) := LP_n hlp hF1.1 (by omega)
  have st : q_m_landLine_60 tp (nI (tN B n r)) (nI n) (nI (tF B n r)) (sI (tK B n r)) va wd wr (mkF B n r 4 td fa 0) (mkP B n r 4 td fa pl 0) td rd fh fs 1 (lN 495740085349) post := by
    refine e_tok (r := tN B n r) hn htk.2.1 hB hb (fun v1 w1 hv1 _ => ?_)
    refine ⟨fun _ => ⟨fun h9 => absurd h9 (by decide +kernel), fun _ => ⟨fun _ => ⟨fun _ => ⟨fun h9 => absurd h9 (by decide +kernel), fun _ => ?_⟩, fun h9 => absurd h9 (by decide +kernel)⟩, fun h9 => absurd h9 (by decide +kernel)⟩⟩, fun h9 => absurd h9 (by decide +kernel)⟩
    exact e_plainLine_4 hn hr hB hb hv1 hl1 (fun j a b c d re be so va wd lf lp td rd gd => ⟨rfl, hF j a b c d re be so va wd lf lp td rd fh fs gd⟩) (fun hk va2 wd2 rd2 gd2 hl => ⟨rfl, hT hk va2 wd2 rd2 gd2 hl⟩)
  have hfu : fu 4 td = false := by simp [fu]
  have e1 : mkF B n r 4 td fa 0 = fa := by show mF (!fu 4 td) fa 3 = fa; rw [hfu]; rfl
  have e2 : mkP B n r 4 td fa pl 0 = pl := by show mP (!fu 4 td) fa pl _ = pl; rw [hfu]; rfl
  rw [e1, e2] at st
  exact ⟨fun h9 => absurd h9 (by decide +kernel), fun _ => ⟨fun h9 => absurd h9 (by decide +kernel), fun _ => ⟨fun h9 => absurd h9 (by decide +kernel), fun _ => ⟨fun h9 => absurd h9 (by decide +kernel), fun _ => ⟨fun _ => io ⟨fun _ => ⟨fun _ => ⟨fun _ => st, fun h9 => absurd h9 (by decide +kernel)⟩, fun h9 => absurd h9 (by decide +kernel)⟩, fun h9 => absurd h9 (by decide +kernel)⟩, fun h9 => absurd h9 (by decide +kernel)⟩⟩⟩⟩⟩
set_option maxRecDepth 20000 in
theorem e_land_5 {tp B rd td : Nat → Int32} {n r : Nat} {va wr fa pl fh fs : Int32} {wd : Int64} {post : Int32 → Int32 → Int32 → Int32 → Int32 → Int64 → Int32 → Int32 → Int32 → (Nat → Int32) → (Nat → Int32) → Int32 → Int32 → Int32 → Prop} (hn : n ≤ 600) (hr : r ≤ n) (hB : ∀ j, j < n → tp j = B j) (hb : ∀ j, iv (-128) 127 (B j)) (hlp : ¬ fa = 0 → pl < (nI (tF B n r))) (hK0 : ¬ tK B n r = 0) (hC : CB 0 td)
    (hF : ∀ j, 1 ≤ j → j ≤ 3 → ¬ tK B n (ps B n r j) = 2 → (∀ i, 1 ≤ i → i < j → tK B n (ps B n r i) = 2) → ∀ (re be so va : Int32) (wd : Int64) (lf lp : Int32) (td rd : Nat → Int32) (fh fs : Int32) (gd : Int32), post 0 re be so va wd (nI (tF B n (ps B n r j))) lf lp td rd fh fs gd)
    (hT : (∀ j, 1 ≤ j → j ≤ 3 → tK B n (ps B n r j) = 2) → ∀ (va' : Int32) (wd' : Int64) (rd' : Nat → Int32) (gd' : Int32), (¬ mkF B n r 5 td fa 3 = 0 → mkP B n r 5 td fa pl 3 < (nI (tF B n (ps B n r 4)))) → post 1 (nI (tN B n (ps B n r 4))) (nI (tF B n (ps B n r 4))) (sI (tK B n (ps B n r 4))) va' wd' wr (mkF B n r 5 td fa 3) (mkP B n r 5 td fa pl 3) (lD 5 (gd B n r 5 3) (tV B n (ps B n r 1)) (tV B n (ps B n r 2)) (tV B n (ps B n r 3)) td) rd' (lH 5 (tV B n (ps B n r 1)) (tV B n (ps B n r 2)) fh) (lS 5 (tV B n (ps B n r 1)) fs) gd') : q_m_landLine_0 tp (nI (tN B n r)) (nI n) (nI (tF B n r)) (sI (tK B n r)) va wd wr fa pl td rd fh fs 1 (lN 7823737) (nI (tF B n r)) post := by
  have hF1 := tF_nx hr hK0
  have htk := tk_le (B := B) hr
  have hl1 : ¬ mkF B n r 5 td fa 0 = 0 → mkP B n r 5 td fa pl 0 < nI (tF B n (tN B n r)) := LP_n hlp hF1.1 (by omega)
  have st : q_m_landLine_60 tp (nI (tN B n r)) (nI n) (nI (tF B n r)) (sI (tK B n r)) va wd wr (mkF B n r 5 td fa 0) (mkP B n r 5 td fa pl 0) td rd fh fs 1 (lN 7823737) post := by
    refine e_tok (r := tN B n r) hn htk.2.1 hB hb (fun v1 w1 hv1 _ => ?_)
    refine ⟨fun _ => ⟨fun h9 => absurd h9 (by decide +kernel), fun _ => ⟨fun _ => ⟨fun _ => ⟨fun _ => ⟨fun h9 => absurd h9 (by decide +kernel), fun _ => ?_⟩, fun h9 => absurd h9 (by decide +kernel)⟩, fun h9 => absurd h9 (by decide +kernel)⟩, fun h9 => absurd h9 (by decide +kernel)⟩⟩, fun h9 => absurd h9 (by decide +kernel)⟩
    exact e_wayLine hn hr hB hb hv1 hl1 (fun j a b c d re be so va wd lf lp td rd fh gd => ⟨rfl, hF j a b c d re be so va wd lf lp td rd fh fs gd⟩) (fun hk va2 wd2 rd2 gd2 hl => ⟨rfl, hT hk va2 wd2 rd2 gd2 hl⟩)
  have hfu : fu 5 td = false := by simp [fu]
  have e1 : mkF B n r 5 td fa 0 = fa := by show mF (!fu 5 td) fa 3 = fa; rw [hfu]; rfl
  have e2 : mkP B n r 5 td fa pl 0 = pl := by show mP (!fu 5 td) fa pl _ = pl; rw [hfu]; rfl
  rw [e1, e2] at st
  exact ⟨fun h9 => absurd h9 (by decide +kernel), fun _ => ⟨fun h9 => absurd h9 (by decide +kernel), fun _ => ⟨fun h9 => absurd h9 (by decide +kernel), fun _ => ⟨fun h9 => absurd h9 (by decide +kernel), fun _ => ⟨fun h9 => absurd h9 (by decide +kernel), fun _ => ⟨fun _ => io ⟨fun _ => ⟨fun _ => ⟨fun _ => st, fun h9 => absurd h9 (by decide +kernel)⟩, fun h9 => absurd h9 (by decide +kernel)⟩, fun h9 => absurd h9 (by decide +kernel)⟩, fun h9 => absurd h9 (by decide +kernel)⟩⟩⟩⟩⟩⟩
set_option maxRecDepth 20000 in
theorem e_land_6 {tp B rd td : Nat → Int32} {n r : Nat} {va wr fa pl fh fs : Int32} {wd : Int64} {post : Int32 → Int32 → Int32 → Int32 → Int32 → Int64 → Int32 → Int32 → Int32 → (Nat → Int32) → (Nat → Int32) → Int32 → Int32 → Int32 → Prop} (hn : n ≤ 600) (hr : r ≤ n) (hB : ∀ j, j < n → tp j = B j) (hb : ∀ j, iv (-128) 127 (B j)) (hlp : ¬ fa = 0 → pl < (nI (tF B n r))) (hK0 : ¬ tK B n r = 0) (hC : CB 0 td)
    (hF : ∀ j, 1 ≤ j → j ≤ 2 → ¬ tK B n (ps B n r j) = 2 → (∀ i, 1 ≤ i → i < j → tK B n (ps B n r i) = 2) → ∀ (re be so va : Int32) (wd : Int64) (lf lp : Int32) (td rd : Nat → Int32) (fh fs : Int32) (gd : Int32), post 0 re be so va wd (nI (tF B n (ps B n r j))) lf lp td rd fh fs gd)
    (hT : (∀ j, 1 ≤ j → j ≤ 2 → tK B n (ps B n r j) = 2) → ∀ (va' : Int32) (wd' : Int64) (rd' : Nat → Int32) (gd' : Int32), (¬ mkF B n r 6 td fa 2 = 0 → mkP B n r 6 td fa pl 2 < (nI (tF B n (ps B n r 3)))) → post 1 (nI (tN B n (ps B n r 3))) (nI (tF B n (ps B n r 3))) (sI (tK B n (ps B n r 3))) va' wd' wr (mkF B n r 6 td fa 2) (mkP B n r 6 td fa pl 2) (lD 6 (gd B n r 6 2) (tV B n (ps B n r 1)) (tV B n (ps B n r 2)) (tV B n (ps B n r 3)) td) rd' (lH 6 (tV B n (ps B n r 1)) (tV B n (ps B n r 2)) fh) (lS 6 (tV B n (ps B n r 1)) fs) gd') : q_m_landLine_0 tp (nI (tN B n r)) (nI n) (nI (tF B n r)) (sI (tK B n r)) va wd wr fa pl td rd fh fs 1 (lN 1701013615) (nI (tF B n r)) post := by
  have hF1 := tF_nx hr hK0
  have htk := tk_le (B := B) hr
  have hl1 : ¬ mkF B n r 6 td fa 0 = 0 → mkP B n r 6 td fa pl 0 < nI (tF B n (tN B n r)) := LP_n hlp hF1.1 (by omega)
  have st : q_m_landLine_60 tp (nI (tN B n r)) (nI n) (nI (tF B n r)) (sI (tK B n r)) va wd wr (mkF B n r 6 td fa 0) (mkP B n r 6 td fa pl 0) td rd fh fs 1 (lN 1701013615) post := by
    refine e_tok (r := tN B n r) hn htk.2.1 hB hb (fun v1 w1 hv1 _ => ?_)
    refine ⟨fun _ => ⟨fun h9 => absurd h9 (by decide +kernel), fun _ => ⟨fun _ => ⟨fun _ => ⟨fun _ => ⟨fun _ => ⟨fun h9 => absurd h9 (by decide +kernel), fun _ => ?_⟩, fun h9 => absurd h9 (by decide +kernel)⟩, fun h9 => absurd h9 (by decide +kernel)⟩, fun h9 => absurd h9 (by decide +kernel)⟩, fun h9 => absurd h9 (by decide +kernel)⟩⟩, fun h9 => absurd h9 (by decide +kernel)⟩
    exact e_echoLine hn hr hB hb hv1 hl1 (hC.2 rfl).2 (fun j a b c d re be so va wd lf lp td rd fh gd => ⟨rfl, hF j a b c d re be so va wd lf lp td rd fh fs gd⟩) (fun hk va2 wd2 rd2 gd2 hl => ⟨rfl, hT hk va2 wd2 rd2 gd2 hl⟩)
  exact ⟨fun h9 => absurd h9 (by decide +kernel), fun _ => ⟨fun h9 => absurd h9 (by decide +kernel), fun _ => ⟨fun h9 => absurd h9 (by decide +kernel), fun _ => ⟨fun h9 => absurd h9 (by decide +kernel), fun _ => ⟨fun h9 => absurd h9 (by decide +kernel), fun _ => ⟨fun h9 => absurd h9 (by decide +kernel), fun _ => ⟨fun _ => io ⟨fun _ => ⟨fun h9 => absurd h9 (by decide +kernel), fun _ => e_full (c := 4) (b := fu 6 td) (by omega) (by simp [fu]) hlp ⟨fun _ => st, fun h9 => absurd h9 (by decide +kernel)⟩⟩, fun h9 => absurd h9 (by decide +kernel)⟩, fun h9 => absurd h9 (by decide +kernel)⟩⟩⟩⟩⟩⟩⟩
set_option maxRecDepth 20000 in
theorem e_land_7 {tp B rd td : Nat → Int32} {n r : Nat} {va wr fa pl fh fs : Int32} {wd : Int64} {post : Int32 → Int32 → Int32 → Int32 → Int32 → Int64 → Int32 → Int32 → Int32 → (Nat → Int32) → (Nat → Int32) → Int32 → Int32 → Int32 → Prop} (hn : n ≤ 600) (hr : r ≤ n) (hB : ∀ j, j < n → tp j = B j) (hb : ∀ j, iv (-128) 127 (B j)) (hlp : ¬ fa = 0 → pl < (nI (tF B n r))) (hK0 : ¬ tK B n r = 0) (hC : CB 0 td)
    (hF : ∀ j, 1 ≤ j → j ≤ 2 → ¬ tK B n (ps B n r j) = 2 → (∀ i, 1 ≤ i → i < j → tK B n (ps B n r i) = 2) → ∀ (re be so va : Int32) (wd : Int64) (lf lp : Int32) (td rd : Nat → Int32) (fh fs : Int32) (gd : Int32), post 0 re be so va wd (nI (tF B n (ps B n r j))) lf lp td rd fh fs gd)
    (hT : (∀ j, 1 ≤ j → j ≤ 2 → tK B n (ps B n r j) = 2) → ∀ (va' : Int32) (wd' : Int64) (rd' : Nat → Int32) (gd' : Int32), (¬ mkF B n r 7 td fa 2 = 0 → mkP B n r 7 td fa pl 2 < (nI (tF B n (ps B n r 3)))) → post 1 (nI (tN B n (ps B n r 3))) (nI (tF B n (ps B n r 3))) (sI (tK B n (ps B n r 3))) va' wd' wr (mkF B n r 7 td fa 2) (mkP B n r 7 td fa pl 2) (lD 7 (gd B n r 7 2) (tV B n (ps B n r 1)) (tV B n (ps B n r 2)) (tV B n (ps B n r 3)) td) rd' (lH 7 (tV B n (ps B n r 1)) (tV B n (ps B n r 2)) fh) (lS 7 (tV B n (ps B n r 1)) fs) gd') : q_m_landLine_0 tp (nI (tN B n r)) (nI n) (nI (tF B n r)) (sI (tK B n r)) va wd wr fa pl td rd fh fs 1 (lN 119165551928690) (nI (tF B n r)) post := by
  have hF1 := tF_nx hr hK0
  have htk := tk_le (B := B) hr
  have hl1 : ¬ mkF B n r 7 td fa 0 = 0 → mkP B n r 7 td fa pl 0 < nI (tF B n (tN B n r)) := LP_n hlp hF1.1 (by omega)
  have st : q_m_landLine_60 tp (nI (tN B n r)) (nI n) (nI (tF B n r)) (sI (tK B n r)) va wd wr (mkF B n r 7 td fa 0) (mkP B n r 7 td fa pl 0) td rd fh fs 1 (lN 119165551928690) post := by
    refine e_tok (r := tN B n r) hn htk.2.1 hB hb (fun v1 w1 hv1 _ => ?_)
    refine ⟨fun _ => ⟨fun h9 => absurd h9 (by decide +kernel), fun _ => ⟨fun _ => ⟨fun _ => ⟨fun _ => ⟨fun _ => ⟨fun _ => ⟨fun h9 => absurd h9 (by decide +kernel), fun _ => ?_⟩, fun h9 => absurd h9 (by decide +kernel)⟩, fun h9 => absurd h9 (by decide +kernel)⟩, fun h9 => absurd h9 (by decide +kernel)⟩, fun h9 => absurd h9 (by decide +kernel)⟩, fun h9 => absurd h9 (by decide +kernel)⟩⟩, fun h9 => absurd h9 (by decide +kernel)⟩
    exact e_ladderLine hn hr hB hb hv1 hl1 (fun j a b c d re be so va wd lf lp td rd fh gd => ⟨rfl, hF j a b c d re be so va wd lf lp td rd fh fs gd⟩) (fun hk va2 wd2 rd2 gd2 hl => ⟨rfl, hT hk va2 wd2 rd2 gd2 hl⟩)
  have hfu : fu 7 td = false := by simp [fu]
  have e1 : mkF B n r 7 td fa 0 = fa := by show mF (!fu 7 td) fa 3 = fa; rw [hfu]; rfl
  have e2 : mkP B n r 7 td fa pl 0 = pl := by show mP (!fu 7 td) fa pl _ = pl; rw [hfu]; rfl
  rw [e1, e2] at st
  exact ⟨fun h9 => absurd h9 (by decide +kernel), fun _ => ⟨fun h9 => absurd h9 (by decide +kernel), fun _ => ⟨fun h9 => absurd h9 (by decide +kernel), fun _ => ⟨fun h9 => absurd h9 (by decide +kernel), fun _ => ⟨fun h9 => absurd h9 (by decide +kernel), fun _ => ⟨fun h9 => absurd h9 (by decide +kernel), fun _ => ⟨fun h9 => absurd h9 (by decide +kernel), fun _ => ⟨fun _ => io ⟨fun _ => ⟨fun _ => ⟨fun _ => st, fun h9 => absurd h9 (by decide +kernel)⟩, fun h9 => absurd h9 (by decide +kernel)⟩, fun h9 => absurd h9 (by decide +kernel)⟩, fun h9 => absurd h9 (by decide +kernel)⟩⟩⟩⟩⟩⟩⟩⟩
set_option maxRecDepth 20000 in
theorem e_land_8 {tp B rd td : Nat → Int32} {n r : Nat} {va wr fa pl fh fs : Int32} {wd : Int64} {post : Int32 → Int32 → Int32 → Int32 → Int32 → Int64 → Int32 → Int32 → Int32 → (Nat → Int32) → (Nat → Int32) → Int32 → Int32 → Int32 → Prop} (hn : n ≤ 600) (hr : r ≤ n) (hB : ∀ j, j < n → tp j = B j) (hb : ∀ j, iv (-128) 127 (B j)) (hlp : ¬ fa = 0 → pl < (nI (tF B n r))) (hK0 : ¬ tK B n r = 0) (hC : CB 0 td)
    (hF : ∀ j, 1 ≤ j → j ≤ 2 → ¬ tK B n (ps B n r j) = 2 → (∀ i, 1 ≤ i → i < j → tK B n (ps B n r i) = 2) → ∀ (re be so va : Int32) (wd : Int64) (lf lp : Int32) (td rd : Nat → Int32) (fh fs : Int32) (gd : Int32), post 0 re be so va wd (nI (tF B n (ps B n r j))) lf lp td rd fh fs gd)
    (hT : (∀ j, 1 ≤ j → j ≤ 2 → tK B n (ps B n r j) = 2) → ∀ (va' : Int32) (wd' : Int64) (rd' : Nat → Int32) (gd' : Int32), (¬ mkF B n r 8 td fa 2 = 0 → mkP B n r 8 td fa pl 2 < (nI (tF B n (ps B n r 3)))) → post 1 (nI (tN B n (ps B n r 3))) (nI (tF B n (ps B n r 3))) (sI (tK B n (ps B n r 3))) va' wd' wr (mkF B n r 8 td fa 2) (mkP B n r 8 td fa pl 2) (lD 8 (gd B n r 8 2) (tV B n (ps B n r 1)) (tV B n (ps B n r 2)) (tV B n (ps B n r 3)) td) rd' (lH 8 (tV B n (ps B n r 1)) (tV B n (ps B n r 2)) fh) (lS 8 (tV B n (ps B n r 1)) fs) gd') : q_m_landLine_0 tp (nI (tN B n r)) (nI n) (nI (tF B n r)) (sI (tK B n r)) va wd wr fa pl td rd fh fs 1 (lN 126896661030258) (nI (tF B n r)) post := by
  have hF1 := tF_nx hr hK0
  have htk := tk_le (B := B) hr
  have hl1 : ¬ mkF B n r 8 td fa 0 = 0 → mkP B n r 8 td fa pl 0 < nI (tF B n (tN B n r)) := LP_n hlp hF1.1 (by omega)
  have st : q_m_landLine_60 tp (nI (tN B n r)) (nI n) (nI (tF B n r)) (sI (tK B n r)) va wd wr (mkF B n r 8 td fa 0) (mkP B n r 8 td fa pl 0) td rd fh fs 1 (lN 126896661030258) post := by
    refine e_tok (r := tN B n r) hn htk.2.1 hB hb (fun v1 w1 hv1 _ => ?_)
    refine ⟨fun _ => ⟨fun h9 => absurd h9 (by decide +kernel), fun _ => ⟨fun _ => ⟨fun _ => ⟨fun _ => ⟨fun _ => ⟨fun _ => ⟨fun _ => ⟨fun h9 => absurd h9 (by decide +kernel), fun _ => ?_⟩, fun h9 => absurd h9 (by decide +kernel)⟩, fun h9 => absurd h9 (by decide +kernel)⟩, fun h9 => absurd h9 (by decide +kernel)⟩, fun h9 => absurd h9 (by decide +kernel)⟩, fun h9 => absurd h9 (by decide +kernel)⟩, fun h9 => absurd h9 (by decide +kernel)⟩⟩, fun h9 => absurd h9 (by decide +kernel)⟩
    exact e_singerLine hn hr hB hb hv1 hl1 (hC.2 rfl).1 (fun j a b c d re be so va wd lf lp td rd fh gd => ⟨rfl, hF j a b c d re be so va wd lf lp td rd fh fs gd⟩) (fun hk va2 wd2 rd2 gd2 hl => ⟨rfl, hT hk va2 wd2 rd2 gd2 hl⟩)
  exact ⟨fun h9 => absurd h9 (by decide +kernel), fun _ => ⟨fun h9 => absurd h9 (by decide +kernel), fun _ => ⟨fun h9 => absurd h9 (by decide +kernel), fun _ => ⟨fun h9 => absurd h9 (by decide +kernel), fun _ => ⟨fun h9 => absurd h9 (by decide +kernel), fun _ => ⟨fun h9 => absurd h9 (by decide +kernel), fun _ => ⟨fun h9 => absurd h9 (by decide +kernel), fun _ => ⟨fun h9 => absurd h9 (by decide +kernel), fun _ => ⟨fun _ => io ⟨fun _ => ⟨fun _ => ⟨fun h9 => absurd h9 (by decide +kernel), fun _ => e_full (c := 1) (b := fu 8 td) (by omega) (by simp [fu]) hlp st⟩, fun h9 => absurd h9 (by decide +kernel)⟩, fun h9 => absurd h9 (by decide +kernel)⟩, fun h9 => absurd h9 (by decide +kernel)⟩⟩⟩⟩⟩⟩⟩⟩⟩
set_option maxRecDepth 20000 in
theorem e_land_9 {tp B rd td : Nat → Int32} {n r : Nat} {va wr fa pl fh fs : Int32} {wd : Int64} {post : Int32 → Int32 → Int32 → Int32 → Int32 → Int64 → Int32 → Int32 → Int32 → (Nat → Int32) → (Nat → Int32) → Int32 → Int32 → Int32 → Prop} (hn : n ≤ 600) (hr : r ≤ n) (hB : ∀ j, j < n → tp j = B j) (hb : ∀ j, iv (-128) 127 (B j)) (hlp : ¬ fa = 0 → pl < (nI (tF B n r))) (hK0 : ¬ tK B n r = 0) (hC : CB 0 td)
    (hF : ∀ j, 1 ≤ j → j ≤ 2 → ¬ tK B n (ps B n r j) = 2 → (∀ i, 1 ≤ i → i < j → tK B n (ps B n r i) = 2) → ∀ (re be so va : Int32) (wd : Int64) (lf lp : Int32) (td rd : Nat → Int32) (fh fs : Int32) (gd : Int32), post 0 re be so va wd (nI (tF B n (ps B n r j))) lf lp td rd fh fs gd)
    (hT : (∀ j, 1 ≤ j → j ≤ 2 → tK B n (ps B n r j) = 2) → ∀ (va' : Int32) (wd' : Int64) (rd' : Nat → Int32) (gd' : Int32), (¬ mkF B n r 9 td fa 2 = 0 → mkP B n r 9 td fa pl 2 < (nI (tF B n (ps B n r 3)))) → post 1 (nI (tN B n (ps B n r 3))) (nI (tF B n (ps B n r 3))) (sI (tK B n (ps B n r 3))) va' wd' wr (mkF B n r 9 td fa 2) (mkP B n r 9 td fa pl 2) (lD 9 (gd B n r 9 2) (tV B n (ps B n r 1)) (tV B n (ps B n r 2)) (tV B n (ps B n r 3)) td) rd' (lH 9 (tV B n (ps B n r 1)) (tV B n (ps B n r 2)) fh) (lS 9 (tV B n (ps B n r 1)) fs) gd') : q_m_landLine_0 tp (nI (tN B n r)) (nI n) (nI (tF B n r)) (sI (tK B n r)) va wd wr fa pl td rd fh fs 1 (lN 461414299507) (nI (tF B n r)) post := by
  have hF1 := tF_nx hr hK0
  have htk := tk_le (B := B) hr
  have hl1 : ¬ mkF B n r 9 td fa 0 = 0 → mkP B n r 9 td fa pl 0 < nI (tF B n (tN B n r)) := LP_n hlp hF1.1 (by omega)
  have st : q_m_landLine_60 tp (nI (tN B n r)) (nI n) (nI (tF B n r)) (sI (tK B n r)) va wd wr (mkF B n r 9 td fa 0) (mkP B n r 9 td fa pl 0) td rd fh fs 1 (lN 461414299507) post := by
    refine e_tok (r := tN B n r) hn htk.2.1 hB hb (fun v1 w1 hv1 _ => ?_)
    refine ⟨fun _ => ⟨fun h9 => absurd h9 (by decide +kernel), fun _ => ⟨fun _ => ⟨fun _ => ⟨fun _ => ⟨fun _ => ⟨fun _ => ⟨fun _ => ⟨fun _ => ?_, fun h9 => absurd h9 (by decide +kernel)⟩, fun h9 => absurd h9 (by decide +kernel)⟩, fun h9 => absurd h9 (by decide +kernel)⟩, fun h9 => absurd h9 (by decide +kernel)⟩, fun h9 => absurd h9 (by decide +kernel)⟩, fun h9 => absurd h9 (by decide +kernel)⟩, fun h9 => absurd h9 (by decide +kernel)⟩⟩, fun h9 => absurd h9 (by decide +kernel)⟩
    exact e_knowsLine hn hr hB hb hv1 hl1 (fun j a b c d re be so va wd lf lp td rd fs gd => ⟨rfl, hF j a b c d re be so va wd lf lp td rd fh fs gd⟩) (fun hk va2 wd2 rd2 gd2 hl => ⟨rfl, hT hk va2 wd2 rd2 gd2 hl⟩)
  have hfu : fu 9 td = false := by simp [fu]
  have e1 : mkF B n r 9 td fa 0 = fa := by show mF (!fu 9 td) fa 3 = fa; rw [hfu]; rfl
  have e2 : mkP B n r 9 td fa pl 0 = pl := by show mP (!fu 9 td) fa pl _ = pl; rw [hfu]; rfl
  rw [e1, e2] at st
  exact ⟨fun h9 => absurd h9 (by decide +kernel), fun _ => ⟨fun h9 => absurd h9 (by decide +kernel), fun _ => ⟨fun h9 => absurd h9 (by decide +kernel), fun _ => ⟨fun h9 => absurd h9 (by decide +kernel), fun _ => ⟨fun h9 => absurd h9 (by decide +kernel), fun _ => ⟨fun h9 => absurd h9 (by decide +kernel), fun _ => ⟨fun h9 => absurd h9 (by decide +kernel), fun _ => ⟨fun h9 => absurd h9 (by decide +kernel), fun _ => ⟨fun h9 => absurd h9 (by decide +kernel), fun _ => ⟨fun h9 => absurd h9 (by decide +kernel), fun _ => io ⟨fun _ => ⟨fun _ => ⟨fun _ => st, fun h9 => absurd h9 (by decide +kernel)⟩, fun h9 => absurd h9 (by decide +kernel)⟩, fun h9 => absurd h9 (by decide +kernel)⟩⟩⟩⟩⟩⟩⟩⟩⟩⟩⟩
theorem e_landNo {tp td rd : Nat → Int32} {re n be so va wr lf lp fh fs gd a : Int32} {x wd : Int64} {post : Int32 → Int32 → Int32 → Int32 → Int32 → Int64 → Int32 → Int32 → Int32 → (Nat → Int32) → (Nat → Int32) → Int32 → Int32 → Int32 → Prop} (hx : ∀ j, 0 ≤ j → j < 10 → ¬ x = lN (wC.getD j 0)) (hp : post 0 re be so va wd be lf lp td rd fh fs gd) : q_m_landLine_0 tp re n be so va wd wr lf lp td rd fh fs gd x a post :=
  ⟨fun h9 => absurd ((lg_cmp_eq _ _).mp h9) (hx 0 (by omega) (by omega)), fun _ => ⟨fun h9 => absurd ((lg_cmp_eq _ _).mp h9) (hx 1 (by omega) (by omega)), fun _ => ⟨fun h9 => absurd ((lg_cmp_eq _ _).mp h9) (hx 2 (by omega) (by omega)), fun _ => ⟨fun h9 => absurd ((lg_cmp_eq _ _).mp h9) (hx 3 (by omega) (by omega)), fun _ => ⟨fun h9 => absurd ((lg_cmp_eq _ _).mp h9) (hx 4 (by omega) (by omega)), fun _ => ⟨fun h9 => absurd ((lg_cmp_eq _ _).mp h9) (hx 5 (by omega) (by omega)), fun _ => ⟨fun h9 => absurd ((lg_cmp_eq _ _).mp h9) (hx 6 (by omega) (by omega)), fun _ => ⟨fun h9 => absurd ((lg_cmp_eq _ _).mp h9) (hx 7 (by omega) (by omega)), fun _ => ⟨fun h9 => absurd ((lg_cmp_eq _ _).mp h9) (hx 8 (by omega) (by omega)), fun _ => ⟨fun _ => zi ⟨rfl, hp⟩, fun h9 => absurd ((lg_cmp_eq _ _).mp h9) (hx 9 (by omega) (by omega))⟩⟩⟩⟩⟩⟩⟩⟩⟩⟩
theorem e_eveNo {tp td rd : Nat → Int32} {re n be so va wr lf lp gd a : Int32} {x wd : Int64} {post : Int32 → Int32 → Int32 → Int32 → Int32 → Int64 → Int32 → Int32 → Int32 → (Nat → Int32) → (Nat → Int32) → Int32 → Prop} (hx : ∀ j, 10 ≤ j → j < 16 → ¬ x = lN (wC.getD j 0)) (hp : post 0 re be so va wd be lf lp td rd gd) : q_m_eveningLine_0 tp re n be so va wd wr lf lp td rd gd x a post :=
  ⟨fun _ => ⟨fun _ => ⟨fun _ => ⟨fun _ => ⟨fun _ => ⟨fun _ => ⟨fun h9 => absurd rfl h9, fun _ => ⟨rfl, hp⟩⟩, fun h9 => absurd ((lg_cmp_eq _ _).mp h9) (hx 15 (by omega) (by omega))⟩, fun h9 => absurd ((lg_cmp_eq _ _).mp h9) (hx 14 (by omega) (by omega))⟩, fun h9 => absurd ((lg_cmp_eq _ _).mp h9) (hx 13 (by omega) (by omega))⟩, fun h9 => absurd ((lg_cmp_eq _ _).mp h9) (hx 12 (by omega) (by omega))⟩, fun h9 => absurd ((lg_cmp_eq _ _).mp h9) (hx 11 (by omega) (by omega))⟩, fun h9 => absurd ((lg_cmp_eq _ _).mp h9) (hx 10 (by omega) (by omega))⟩
theorem e_sigNo {tp td rd : Nat → Int32} {re n be so va wr lf lp gd a : Int32} {x wd : Int64} {post : Int32 → Int32 → Int32 → Int32 → Int32 → Int64 → Int32 → Int32 → Int32 → (Nat → Int32) → (Nat → Int32) → Int32 → Prop} (hx : ∀ j, 16 ≤ j → j < 18 → ¬ x = lN (wC.getD j 0)) (hp : post 0 re be so va wd be lf lp td rd gd) : q_m_sightLine_0 tp re n be so va wd wr lf lp td rd gd x a post :=
  ⟨fun h9 => absurd ((lg_cmp_eq _ _).mp h9) (hx 16 (by omega) (by omega)), fun _ => ⟨fun h9 => absurd ((lg_cmp_eq _ _).mp h9) (hx 17 (by omega) (by omega)), fun _ => ⟨rfl, hp⟩⟩⟩
theorem e_choNo {tp td rd : Nat → Int32} {re n be so va wr lf lp gd a : Int32} {x wd : Int64} {post : Int32 → Int32 → Int32 → Int32 → Int32 → Int64 → Int32 → Int32 → Int32 → (Nat → Int32) → (Nat → Int32) → Int32 → Prop} (hx : ∀ j, 18 ≤ j → j < 20 → ¬ x = lN (wC.getD j 0)) (hp : post 0 re be so va wd be lf lp td rd gd) : q_m_choirLine_0 tp re n be so va wd wr lf lp td rd gd x a post :=
  ⟨fun h9 => absurd ((lg_cmp_eq _ _).mp h9) (hx 18 (by omega) (by omega)), fun _ => ⟨fun h9 => absurd ((lg_cmp_eq _ _).mp h9) (hx 19 (by omega) (by omega)), fun _ => ⟨rfl, hp⟩⟩⟩
set_option maxRecDepth 20000 in
theorem e_eve_10 {tp B rd td : Nat → Int32} {n r : Nat} {va wr fa pl : Int32} {wd : Int64} {post : Int32 → Int32 → Int32 → Int32 → Int32 → Int64 → Int32 → Int32 → Int32 → (Nat → Int32) → (Nat → Int32) → Int32 → Prop} (hn : n ≤ 600) (hr : r ≤ n) (hB : ∀ j, j < n → tp j = B j) (hb : ∀ j, iv (-128) 127 (B j)) (hlp : ¬ fa = 0 → pl < (nI (tF B n r))) (hK0 : ¬ tK B n r = 0) (hC : CB 1 td)
    (hF : ∀ j, 1 ≤ j → j ≤ 2 → ¬ tK B n (ps B n r j) = 2 → (∀ i, 1 ≤ i → i < j → tK B n (ps B n r i) = 2) → ∀ (re be so va : Int32) (wd : Int64) (lf lp : Int32) (td rd : Nat → Int32) (gd : Int32), post 0 re be so va wd (nI (tF B n (ps B n r j))) lf lp td rd gd)
    (hT : (∀ j, 1 ≤ j → j ≤ 2 → tK B n (ps B n r j) = 2) → ∀ (va' : Int32) (wd' : Int64) (rd' : Nat → Int32) (gd' : Int32), (¬ mkF B n r 10 td fa 2 = 0 → mkP B n r 10 td fa pl 2 < (nI (tF B n (ps B n r 3)))) → post 1 (nI (tN B n (ps B n r 3))) (nI (tF B n (ps B n r 3))) (sI (tK B n (ps B n r 3))) va' wd' wr (mkF B n r 10 td fa 2) (mkP B n r 10 td fa pl 2) (lD 10 (gd B n r 10 2) (tV B n (ps B n r 1)) (tV B n (ps B n r 2)) (tV B n (ps B n r 3)) td) rd' gd') : q_m_eveningLine_0 tp (nI (tN B n r)) (nI n) (nI (tF B n r)) (sI (tK B n r)) va wd wr fa pl td rd 1 (lN 422608071022) (nI (tF B n r)) post := by
  have hF1 := tF_nx hr hK0
  have htk := tk_le (B := B) hr
  have hl1 : ¬ mkF B n r 10 td fa 0 = 0 → mkP B n r 10 td fa pl 0 < nI (tF B n (tN B n r)) := LP_n hlp hF1.1 (by omega)
  refine ⟨fun h9 => absurd h9 (by decide +kernel), fun _ => ⟨fun _ => e_full (c := 0) (b := fu 10 td) (by omega) (by simp [fu]) hlp (e_tok (r := tN B n r) hn htk.2.1 hB hb (fun v1 w1 hv1 _ => ?_)), fun h9 => absurd h9 (by decide +kernel)⟩⟩
  intro rd1 e1
  rw [c_2] at e1
  refine e_take (k := 1) (i := 1) (c := cW 10 0 (tV B n (ps B n r 1)) (tV B n (ps B n r 1))) (rd := rd1) (g := gd B n r 10 0) hn hr hB hb hv1 hl1 (by omega) rfl (fun hk => iz (hF 1 (by omega) (by omega) hk (be1 (P := fun j => tK B n (ps B n r j) = 2)) _ _ _ _ _ _ _ _ _ _)) (fun k1 va1 wd1 hv2 hl2 => oi ?_)
  refine ⟨fun h9 => absurd h9 (by decide +kernel), fun _ => ⟨fun _ => ?_, fun h9 => absurd h9 (by decide +kernel)⟩⟩
  refine e_take (k := 2) (i := 2) (c := cW 10 1 (tV B n (ps B n r 1)) (tV B n (ps B n r 2))) (g := gd B n r 10 1) hn hr hB hb hv2 hl2 (by omega) rfl (fun hk => zi (hF 2 (by omega) (by omega) hk (be2 (P := fun j => tK B n (ps B n r j) = 2) k1) _ _ _ _ _ _ _ _ _ _)) (fun k2 va2 wd2 hv3 hl3 => io ?_)
  intro rd3 e3
  rw [c_0, e1] at e3
  have g := hT (al2 (P := fun j => tK B n (ps B n r j) = 2) k1 k2) va2 wd2 rd3 (gI (gd B n r 10 2)) hl3
  rw [show lD 10 (gd B n r 10 2) (tV B n (ps B n r 1)) (tV B n (ps B n r 2)) (tV B n (ps B n r 3)) td = (if td 0 = 40 then td else upd (upd (upd (upd td 0 (td 0 + 1)) (Int32.toNatClampNeg ((1 + 3 * td 0) + 0)) 0) (Int32.toNatClampNeg ((1 + 3 * td 0) + 1)) (tV B n (ps B n r 1))) (Int32.toNatClampNeg ((1 + 3 * td 0) + 2)) (tV B n (ps B n r 2))) from rfl] at g
  have r0 : rd3 0 = 0 := by rw [e3]; exact up_s
  have r1 : rd3 1 = (tV B n (ps B n r 1)) := by rw [e3, up_n (by omega), up_n (by omega), up_s]
  have r2 : rd3 2 = (tV B n (ps B n r 2)) := by rw [e3, up_n (by omega), up_s]
  refine e_keep (W := 3) (by omega) hC.1 (fun h => ?_) (fun h => ?_)
  · rw [if_pos h] at g; exact g
  · rw [if_neg h] at g
    have e : kp td rd3 3 3 = upd (upd (upd (upd td 0 (td 0 + 1)) (Int32.toNatClampNeg ((1 + 3 * td 0) + 0)) (rd3 0)) (Int32.toNatClampNeg ((1 + 3 * td 0) + 1)) (rd3 1)) (Int32.toNatClampNeg ((1 + 3 * td 0) + 2)) (rd3 2) := rfl
    rw [e, r0, r1, r2]
    exact g
set_option maxRecDepth 20000 in
theorem e_eve_11 {tp B rd td : Nat → Int32} {n r : Nat} {va wr fa pl : Int32} {wd : Int64} {post : Int32 → Int32 → Int32 → Int32 → Int32 → Int64 → Int32 → Int32 → Int32 → (Nat → Int32) → (Nat → Int32) → Int32 → Prop} (hn : n ≤ 600) (hr : r ≤ n) (hB : ∀ j, j < n → tp j = B j) (hb : ∀ j, iv (-128) 127 (B j)) (hlp : ¬ fa = 0 → pl < (nI (tF B n r))) (hK0 : ¬ tK B n r = 0) (hC : CB 1 td)
    (hF : ∀ j, 1 ≤ j → j ≤ 2 → ¬ tK B n (ps B n r j) = 2 → (∀ i, 1 ≤ i → i < j → tK B n (ps B n r i) = 2) → ∀ (re be so va : Int32) (wd : Int64) (lf lp : Int32) (td rd : Nat → Int32) (gd : Int32), post 0 re be so va wd (nI (tF B n (ps B n r j))) lf lp td rd gd)
    (hT : (∀ j, 1 ≤ j → j ≤ 2 → tK B n (ps B n r j) = 2) → ∀ (va' : Int32) (wd' : Int64) (rd' : Nat → Int32) (gd' : Int32), (¬ mkF B n r 11 td fa 2 = 0 → mkP B n r 11 td fa pl 2 < (nI (tF B n (ps B n r 3)))) → post 1 (nI (tN B n (ps B n r 3))) (nI (tF B n (ps B n r 3))) (sI (tK B n (ps B n r 3))) va' wd' wr (mkF B n r 11 td fa 2) (mkP B n r 11 td fa pl 2) (lD 11 (gd B n r 11 2) (tV B n (ps B n r 1)) (tV B n (ps B n r 2)) (tV B n (ps B n r 3)) td) rd' gd') : q_m_eveningLine_0 tp (nI (tN B n r)) (nI n) (nI (tF B n r)) (sI (tK B n r)) va wd wr fa pl td rd 1 (lN 1936289383) (nI (tF B n r)) post := by
  have hF1 := tF_nx hr hK0
  have htk := tk_le (B := B) hr
  have hl1 : ¬ mkF B n r 11 td fa 0 = 0 → mkP B n r 11 td fa pl 0 < nI (tF B n (tN B n r)) := LP_n hlp hF1.1 (by omega)
  refine ⟨fun _ => ⟨fun h9 => absurd h9 (by decide +kernel), fun _ => ⟨fun _ => e_full (c := 0) (b := fu 11 td) (by omega) (by simp [fu]) hlp (e_tok (r := tN B n r) hn htk.2.1 hB hb (fun v1 w1 hv1 _ => ?_)), fun h9 => absurd h9 (by decide +kernel)⟩⟩, fun h9 => absurd h9 (by decide +kernel)⟩
  intro rd1 e1
  rw [c_2] at e1
  refine e_take (k := 1) (i := 1) (c := cW 11 0 (tV B n (ps B n r 1)) (tV B n (ps B n r 1))) (rd := rd1) (g := gd B n r 11 0) hn hr hB hb hv1 hl1 (by omega) rfl (fun hk => iz (hF 1 (by omega) (by omega) hk (be1 (P := fun j => tK B n (ps B n r j) = 2)) _ _ _ _ _ _ _ _ _ _)) (fun k1 va1 wd1 hv2 hl2 => oi ?_)
  refine ⟨fun h9 => absurd h9 (by decide +kernel), fun _ => ⟨fun _ => ?_, fun h9 => absurd h9 (by decide +kernel)⟩⟩
  refine e_take (k := 2) (i := 2) (c := cW 11 1 (tV B n (ps B n r 1)) (tV B n (ps B n r 2))) (g := gd B n r 11 1) hn hr hB hb hv2 hl2 (by omega) rfl (fun hk => zi (hF 2 (by omega) (by omega) hk (be2 (P := fun j => tK B n (ps B n r j) = 2) k1) _ _ _ _ _ _ _ _ _ _)) (fun k2 va2 wd2 hv3 hl3 => io ?_)
  intro rd3 e3
  rw [c_0, e1] at e3
  have g := hT (al2 (P := fun j => tK B n (ps B n r j) = 2) k1 k2) va2 wd2 rd3 (gI (gd B n r 11 2)) hl3
  rw [show lD 11 (gd B n r 11 2) (tV B n (ps B n r 1)) (tV B n (ps B n r 2)) (tV B n (ps B n r 3)) td = (if td 0 = 40 then td else upd (upd (upd (upd td 0 (td 0 + 1)) (Int32.toNatClampNeg ((1 + 3 * td 0) + 0)) 1) (Int32.toNatClampNeg ((1 + 3 * td 0) + 1)) (tV B n (ps B n r 1))) (Int32.toNatClampNeg ((1 + 3 * td 0) + 2)) (tV B n (ps B n r 2))) from rfl] at g
  have r0 : rd3 0 = 1 := by rw [e3]; exact up_s
  have r1 : rd3 1 = (tV B n (ps B n r 1)) := by rw [e3, up_n (by omega), up_n (by omega), up_s]
  have r2 : rd3 2 = (tV B n (ps B n r 2)) := by rw [e3, up_n (by omega), up_s]
  refine e_keep (W := 3) (by omega) hC.1 (fun h => ?_) (fun h => ?_)
  · rw [if_pos h] at g; exact g
  · rw [if_neg h] at g
    have e : kp td rd3 3 3 = upd (upd (upd (upd td 0 (td 0 + 1)) (Int32.toNatClampNeg ((1 + 3 * td 0) + 0)) (rd3 0)) (Int32.toNatClampNeg ((1 + 3 * td 0) + 1)) (rd3 1)) (Int32.toNatClampNeg ((1 + 3 * td 0) + 2)) (rd3 2) := rfl
    rw [e, r0, r1, r2]
    exact g
set_option maxRecDepth 20000 in
theorem e_eve_12 {tp B rd td : Nat → Int32} {n r : Nat} {va wr fa pl : Int32} {wd : Int64} {post : Int32 → Int32 → Int32 → Int32 → Int32 → Int64 → Int32 → Int32 → Int32 → (Nat → Int32) → (Nat → Int32) → Int32 → Prop} (hn : n ≤ 600) (hr : r ≤ n) (hB : ∀ j, j < n → tp j = B j) (hb : ∀ j, iv (-128) 127 (B j)) (hlp : ¬ fa = 0 → pl < (nI (tF B n r))) (hK0 : ¬ tK B n r = 0) (hC : CB 1 td)
    (hF : ∀ j, 1 ≤ j → j ≤ 2 → ¬ tK B n (ps B n r j) = 2 → (∀ i, 1 ≤ i → i < j → tK B n (ps B n r i) = 2) → ∀ (re be so va : Int32) (wd : Int64) (lf lp : Int32) (td rd : Nat → Int32) (gd : Int32), post 0 re be so va wd (nI (tF B n (ps B n r j))) lf lp td rd gd)
    (hT : (∀ j, 1 ≤ j → j ≤ 2 → tK B n (ps B n r j) = 2) → ∀ (va' : Int32) (wd' : Int64) (rd' : Nat → Int32) (gd' : Int32), (¬ mkF B n r 12 td fa 2 = 0 → mkP B n r 12 td fa pl 2 < (nI (tF B n (ps B n r 3)))) → post 1 (nI (tN B n (ps B n r 3))) (nI (tF B n (ps B n r 3))) (sI (tK B n (ps B n r 3))) va' wd' wr (mkF B n r 12 td fa 2) (mkP B n r 12 td fa pl 2) (lD 12 (gd B n r 12 2) (tV B n (ps B n r 1)) (tV B n (ps B n r 2)) (tV B n (ps B n r 3)) td) rd' gd') : q_m_eveningLine_0 tp (nI (tN B n r)) (nI n) (nI (tF B n r)) (sI (tK B n r)) va wd wr fa pl td rd 1 (lN 33610324346432613) (nI (tF B n r)) post := by
  have hF1 := tF_nx hr hK0
  have htk := tk_le (B := B) hr
  have hl1 : ¬ mkF B n r 12 td fa 0 = 0 → mkP B n r 12 td fa pl 0 < nI (tF B n (tN B n r)) := LP_n hlp hF1.1 (by omega)
  refine ⟨fun _ => ⟨fun _ => ⟨fun h9 => absurd h9 (by decide +kernel), fun _ => ⟨fun _ => e_full (c := 0) (b := fu 12 td) (by omega) (by simp [fu]) hlp (e_tok (r := tN B n r) hn htk.2.1 hB hb (fun v1 w1 hv1 _ => ?_)), fun h9 => absurd h9 (by decide +kernel)⟩⟩, fun h9 => absurd h9 (by decide +kernel)⟩, fun h9 => absurd h9 (by decide +kernel)⟩
  intro rd1 e1
  rw [c_2] at e1
  refine e_take (k := 1) (i := 1) (c := cW 12 0 (tV B n (ps B n r 1)) (tV B n (ps B n r 1))) (rd := rd1) (g := gd B n r 12 0) hn hr hB hb hv1 hl1 (by omega) rfl (fun hk => iz (hF 1 (by omega) (by omega) hk (be1 (P := fun j => tK B n (ps B n r j) = 2)) _ _ _ _ _ _ _ _ _ _)) (fun k1 va1 wd1 hv2 hl2 => oi ?_)
  refine ⟨fun h9 => absurd h9 (by decide +kernel), fun _ => ⟨fun _ => ?_, fun h9 => absurd h9 (by decide +kernel)⟩⟩
  refine e_take (k := 2) (i := 2) (c := cW 12 1 (tV B n (ps B n r 1)) (tV B n (ps B n r 2))) (g := gd B n r 12 1) hn hr hB hb hv2 hl2 (by omega) rfl (fun hk => zi (hF 2 (by omega) (by omega) hk (be2 (P := fun j => tK B n (ps B n r j) = 2) k1) _ _ _ _ _ _ _ _ _ _)) (fun k2 va2 wd2 hv3 hl3 => io ?_)
  intro rd3 e3
  rw [c_0, e1] at e3
  have g := hT (al2 (P := fun j => tK B n (ps B n r j) = 2) k1 k2) va2 wd2 rd3 (gI (gd B n r 12 2)) hl3
  rw [show lD 12 (gd B n r 12 2) (tV B n (ps B n r 1)) (tV B n (ps B n r 2)) (tV B n (ps B n r 3)) td = (if td 0 = 40 then td else upd (upd (upd (upd td 0 (td 0 + 1)) (Int32.toNatClampNeg ((1 + 3 * td 0) + 0)) 2) (Int32.toNatClampNeg ((1 + 3 * td 0) + 1)) (tV B n (ps B n r 1))) (Int32.toNatClampNeg ((1 + 3 * td 0) + 2)) (tV B n (ps B n r 2))) from rfl] at g
  have r0 : rd3 0 = 2 := by rw [e3]; exact up_s
  have r1 : rd3 1 = (tV B n (ps B n r 1)) := by rw [e3, up_n (by omega), up_n (by omega), up_s]
  have r2 : rd3 2 = (tV B n (ps B n r 2)) := by rw [e3, up_n (by omega), up_s]
  refine e_keep (W := 3) (by omega) hC.1 (fun h => ?_) (fun h => ?_)
  · rw [if_pos h] at g; exact g
  · rw [if_neg h] at g
    have e : kp td rd3 3 3 = upd (upd (upd (upd td 0 (td 0 + 1)) (Int32.toNatClampNeg ((1 + 3 * td 0) + 0)) (rd3 0)) (Int32.toNatClampNeg ((1 + 3 * td 0) + 1)) (rd3 1)) (Int32.toNatClampNeg ((1 + 3 * td 0) + 2)) (rd3 2) := rfl
    rw [e, r0, r1, r2]
    exact g
set_option maxRecDepth 20000 in
theorem e_eve_13 {tp B rd td : Nat → Int32} {n r : Nat} {va wr fa pl : Int32} {wd : Int64} {post : Int32 → Int32 → Int32 → Int32 → Int32 → Int64 → Int32 → Int32 → Int32 → (Nat → Int32) → (Nat → Int32) → Int32 → Prop} (hn : n ≤ 600) (hr : r ≤ n) (hB : ∀ j, j < n → tp j = B j) (hb : ∀ j, iv (-128) 127 (B j)) (hlp : ¬ fa = 0 → pl < (nI (tF B n r))) (hK0 : ¬ tK B n r = 0) (hC : CB 1 td)
    (hF : ∀ j, 1 ≤ j → j ≤ 2 → ¬ tK B n (ps B n r j) = 2 → (∀ i, 1 ≤ i → i < j → tK B n (ps B n r i) = 2) → ∀ (re be so va : Int32) (wd : Int64) (lf lp : Int32) (td rd : Nat → Int32) (gd : Int32), post 0 re be so va wd (nI (tF B n (ps B n r j))) lf lp td rd gd)
    (hT : (∀ j, 1 ≤ j → j ≤ 2 → tK B n (ps B n r j) = 2) → ∀ (va' : Int32) (wd' : Int64) (rd' : Nat → Int32) (gd' : Int32), (¬ mkF B n r 13 td fa 2 = 0 → mkP B n r 13 td fa pl 2 < (nI (tF B n (ps B n r 3)))) → post 1 (nI (tN B n (ps B n r 3))) (nI (tF B n (ps B n r 3))) (sI (tK B n (ps B n r 3))) va' wd' wr (mkF B n r 13 td fa 2) (mkP B n r 13 td fa pl 2) (lD 13 (gd B n r 13 2) (tV B n (ps B n r 1)) (tV B n (ps B n r 2)) (tV B n (ps B n r 3)) td) rd' gd') : q_m_eveningLine_0 tp (nI (tN B n r)) (nI n) (nI (tF B n r)) (sI (tK B n r)) va wd wr fa pl td rd 1 (lN 2002873451) (nI (tF B n r)) post := by
  have hF1 := tF_nx hr hK0
  have htk := tk_le (B := B) hr
  have hl1 : ¬ mkF B n r 13 td fa 0 = 0 → mkP B n r 13 td fa pl 0 < nI (tF B n (tN B n r)) := LP_n hlp hF1.1 (by omega)
  refine ⟨fun _ => ⟨fun _ => ⟨fun _ => ⟨fun h9 => absurd h9 (by decide +kernel), fun _ => ⟨fun _ => e_full (c := 0) (b := fu 13 td) (by omega) (by simp [fu]) hlp (e_tok (r := tN B n r) hn htk.2.1 hB hb (fun v1 w1 hv1 _ => ?_)), fun h9 => absurd h9 (by decide +kernel)⟩⟩, fun h9 => absurd h9 (by decide +kernel)⟩, fun h9 => absurd h9 (by decide +kernel)⟩, fun h9 => absurd h9 (by decide +kernel)⟩
  intro rd1 e1
  rw [c_2] at e1
  refine e_take (k := 1) (i := 1) (c := cW 13 0 (tV B n (ps B n r 1)) (tV B n (ps B n r 1))) (rd := rd1) (g := gd B n r 13 0) hn hr hB hb hv1 hl1 (by omega) rfl (fun hk => iz (hF 1 (by omega) (by omega) hk (be1 (P := fun j => tK B n (ps B n r j) = 2)) _ _ _ _ _ _ _ _ _ _)) (fun k1 va1 wd1 hv2 hl2 => oi ?_)
  refine ⟨fun h9 => absurd h9 (by decide +kernel), fun _ => ⟨fun h9 => absurd h9 (by decide +kernel), fun _ => ?_⟩⟩
  refine e_take (k := 2) (i := 2) (c := cW 13 1 (tV B n (ps B n r 1)) (tV B n (ps B n r 2))) (g := gd B n r 13 1) hn hr hB hb hv2 hl2 (by omega) rfl (fun hk => zi (hF 2 (by omega) (by omega) hk (be2 (P := fun j => tK B n (ps B n r j) = 2) k1) _ _ _ _ _ _ _ _ _ _)) (fun k2 va2 wd2 hv3 hl3 => io ?_)
  intro rd3 e3
  rw [c_0, e1] at e3
  have g := hT (al2 (P := fun j => tK B n (ps B n r j) = 2) k1 k2) va2 wd2 rd3 (gI (gd B n r 13 2)) hl3
  rw [show lD 13 (gd B n r 13 2) (tV B n (ps B n r 1)) (tV B n (ps B n r 2)) (tV B n (ps B n r 3)) td = (if td 0 = 40 then td else upd (upd (upd (upd td 0 (td 0 + 1)) (Int32.toNatClampNeg ((1 + 3 * td 0) + 0)) 3) (Int32.toNatClampNeg ((1 + 3 * td 0) + 1)) (tV B n (ps B n r 1))) (Int32.toNatClampNeg ((1 + 3 * td 0) + 2)) (tV B n (ps B n r 2))) from rfl] at g
  have r0 : rd3 0 = 3 := by rw [e3]; exact up_s
  have r1 : rd3 1 = (tV B n (ps B n r 1)) := by rw [e3, up_n (by omega), up_n (by omega), up_s]
  have r2 : rd3 2 = (tV B n (ps B n r 2)) := by rw [e3, up_n (by omega), up_s]
  refine e_keep (W := 3) (by omega) hC.1 (fun h => ?_) (fun h => ?_)
  · rw [if_pos h] at g; exact g
  · rw [if_neg h] at g
    have e : kp td rd3 3 3 = upd (upd (upd (upd td 0 (td 0 + 1)) (Int32.toNatClampNeg ((1 + 3 * td 0) + 0)) (rd3 0)) (Int32.toNatClampNeg ((1 + 3 * td 0) + 1)) (rd3 1)) (Int32.toNatClampNeg ((1 + 3 * td 0) + 2)) (rd3 2) := rfl
    rw [e, r0, r1, r2]
    exact g
set_option maxRecDepth 20000 in
theorem e_eve_14 {tp B rd td : Nat → Int32} {n r : Nat} {va wr fa pl : Int32} {wd : Int64} {post : Int32 → Int32 → Int32 → Int32 → Int32 → Int64 → Int32 → Int32 → Int32 → (Nat → Int32) → (Nat → Int32) → Int32 → Prop} (hn : n ≤ 600) (hr : r ≤ n) (hB : ∀ j, j < n → tp j = B j) (hb : ∀ j, iv (-128) 127 (B j)) (hlp : ¬ fa = 0 → pl < (nI (tF B n r))) (hK0 : ¬ tK B n r = 0) (hC : CB 1 td)
    (hF : ∀ j, 1 ≤ j → j ≤ 1 → ¬ tK B n (ps B n r j) = 2 → (∀ i, 1 ≤ i → i < j → tK B n (ps B n r i) = 2) → ∀ (re be so va : Int32) (wd : Int64) (lf lp : Int32) (td rd : Nat → Int32) (gd : Int32), post 0 re be so va wd (nI (tF B n (ps B n r j))) lf lp td rd gd)
    (hT : (∀ j, 1 ≤ j → j ≤ 1 → tK B n (ps B n r j) = 2) → ∀ (va' : Int32) (wd' : Int64) (rd' : Nat → Int32) (gd' : Int32), (¬ mkF B n r 14 td fa 1 = 0 → mkP B n r 14 td fa pl 1 < (nI (tF B n (ps B n r 2)))) → post 1 (nI (tN B n (ps B n r 2))) (nI (tF B n (ps B n r 2))) (sI (tK B n (ps B n r 2))) va' wd' wr (mkF B n r 14 td fa 1) (mkP B n r 14 td fa pl 1) (lD 14 (gd B n r 14 1) (tV B n (ps B n r 1)) (tV B n (ps B n r 2)) (tV B n (ps B n r 3)) td) rd' gd') : q_m_eveningLine_0 tp (nI (tN B n r)) (nI n) (nI (tF B n r)) (sI (tK B n r)) va wd wr fa pl td rd 1 (lN 427020610914) (nI (tF B n r)) post := by
  have hF1 := tF_nx hr hK0
  have htk := tk_le (B := B) hr
  have hl1 : ¬ mkF B n r 14 td fa 0 = 0 → mkP B n r 14 td fa pl 0 < nI (tF B n (tN B n r)) := LP_n hlp hF1.1 (by omega)
  refine ⟨fun _ => ⟨fun _ => ⟨fun _ => ⟨fun _ => ⟨fun h9 => absurd h9 (by decide +kernel), fun _ => ⟨fun _ => e_full (c := 0) (b := fu 14 td) (by omega) (by simp [fu]) hlp (e_tok (r := tN B n r) hn htk.2.1 hB hb (fun v1 w1 hv1 _ => ?_)), fun h9 => absurd h9 (by decide +kernel)⟩⟩, fun h9 => absurd h9 (by decide +kernel)⟩, fun h9 => absurd h9 (by decide +kernel)⟩, fun h9 => absurd h9 (by decide +kernel)⟩, fun h9 => absurd h9 (by decide +kernel)⟩
  intro rd1 e1
  rw [c_2] at e1
  refine e_take (k := 1) (i := 1) (c := cW 14 0 (tV B n (ps B n r 1)) (tV B n (ps B n r 1))) (rd := rd1) (g := gd B n r 14 0) hn hr hB hb hv1 hl1 (by omega) rfl (fun hk => iz (hF 1 (by omega) (by omega) hk (be1 (P := fun j => tK B n (ps B n r j) = 2)) _ _ _ _ _ _ _ _ _ _)) (fun k1 va1 wd1 hv2 hl2 => oi ?_)
  refine ⟨fun _ => ?_, fun h9 => absurd h9 (by decide +kernel)⟩
  intro rd3 e3
  rw [c_0, e1] at e3
  have g := hT (al1 (P := fun j => tK B n (ps B n r j) = 2) k1) va1 wd1 rd3 (gI (gd B n r 14 1)) hl2
  rw [show lD 14 (gd B n r 14 1) (tV B n (ps B n r 1)) (tV B n (ps B n r 2)) (tV B n (ps B n r 3)) td = (if td 0 = 40 then td else upd (upd (upd (upd td 0 (td 0 + 1)) (Int32.toNatClampNeg ((1 + 3 * td 0) + 0)) 4) (Int32.toNatClampNeg ((1 + 3 * td 0) + 1)) (tV B n (ps B n r 1))) (Int32.toNatClampNeg ((1 + 3 * td 0) + 2)) (-1)) from rfl] at g
  have r0 : rd3 0 = 4 := by rw [e3]; exact up_s
  have r1 : rd3 1 = (tV B n (ps B n r 1)) := by rw [e3, up_n (by omega), up_s]
  have r2 : rd3 2 = (-1) := by rw [e3, up_n (by omega), up_n (by omega), up_s]
  refine e_keep (W := 3) (by omega) hC.1 (fun h => ?_) (fun h => ?_)
  · rw [if_pos h] at g; exact g
  · rw [if_neg h] at g
    have e : kp td rd3 3 3 = upd (upd (upd (upd td 0 (td 0 + 1)) (Int32.toNatClampNeg ((1 + 3 * td 0) + 0)) (rd3 0)) (Int32.toNatClampNeg ((1 + 3 * td 0) + 1)) (rd3 1)) (Int32.toNatClampNeg ((1 + 3 * td 0) + 2)) (rd3 2) := rfl
    rw [e, r0, r1, r2]
    exact g
set_option maxRecDepth 20000 in
theorem e_eve_15 {tp B rd td : Nat → Int32} {n r : Nat} {va wr fa pl : Int32} {wd : Int64} {post : Int32 → Int32 → Int32 → Int32 → Int32 → Int64 → Int32 → Int32 → Int32 → (Nat → Int32) → (Nat → Int32) → Int32 → Prop} (hn : n ≤ 600) (hr : r ≤ n) (hB : ∀ j, j < n → tp j = B j) (hb : ∀ j, iv (-128) 127 (B j)) (hlp : ¬ fa = 0 → pl < (nI (tF B n r))) (hK0 : ¬ tK B n r = 0) (hC : CB 1 td)
    (hF : ∀ j, 1 ≤ j → j ≤ 1 → ¬ tK B n (ps B n r j) = 2 → (∀ i, 1 ≤ i → i < j → tK B n (ps B n r i) = 2) → ∀ (re be so va : Int32) (wd : Int64) (lf lp : Int32) (td rd : Nat → Int32) (gd : Int32), post 0 re be so va wd (nI (tF B n (ps B n r j))) lf lp td rd gd)
    (hT : (∀ j, 1 ≤ j → j ≤ 1 → tK B n (ps B n r j) = 2) → ∀ (va' : Int32) (wd' : Int64) (rd' : Nat → Int32) (gd' : Int32), (¬ mkF B n r 15 td fa 1 = 0 → mkP B n r 15 td fa pl 1 < (nI (tF B n (ps B n r 2)))) → post 1 (nI (tN B n (ps B n r 2))) (nI (tF B n (ps B n r 2))) (sI (tK B n (ps B n r 2))) va' wd' wr (mkF B n r 15 td fa 1) (mkP B n r 15 td fa pl 1) (lD 15 (gd B n r 15 1) (tV B n (ps B n r 1)) (tV B n (ps B n r 2)) (tV B n (ps B n r 3)) td) rd' gd') : q_m_eveningLine_0 tp (nI (tN B n r)) (nI n) (nI (tF B n r)) (sI (tK B n r)) va wd wr fa pl td rd 1 (lN 28259043934301796) (nI (tF B n r)) post := by
  have hF1 := tF_nx hr hK0
  have htk := tk_le (B := B) hr
  have hl1 : ¬ mkF B n r 15 td fa 0 = 0 → mkP B n r 15 td fa pl 0 < nI (tF B n (tN B n r)) := LP_n hlp hF1.1 (by omega)
  refine ⟨fun _ => ⟨fun _ => ⟨fun _ => ⟨fun _ => ⟨fun _ => ⟨fun h9 => absurd h9 (by decide +kernel), fun _ => ⟨fun _ => e_full (c := 0) (b := fu 15 td) (by omega) (by simp [fu]) hlp (e_tok (r := tN B n r) hn htk.2.1 hB hb (fun v1 w1 hv1 _ => ?_)), fun h9 => absurd h9 (by decide +kernel)⟩⟩, fun h9 => absurd h9 (by decide +kernel)⟩, fun h9 => absurd h9 (by decide +kernel)⟩, fun h9 => absurd h9 (by decide +kernel)⟩, fun h9 => absurd h9 (by decide +kernel)⟩, fun h9 => absurd h9 (by decide +kernel)⟩
  intro rd1 e1
  rw [c_2] at e1
  refine e_take (k := 1) (i := 1) (c := cW 15 0 (tV B n (ps B n r 1)) (tV B n (ps B n r 1))) (rd := rd1) (g := gd B n r 15 0) hn hr hB hb hv1 hl1 (by omega) rfl (fun hk => iz (hF 1 (by omega) (by omega) hk (be1 (P := fun j => tK B n (ps B n r j) = 2)) _ _ _ _ _ _ _ _ _ _)) (fun k1 va1 wd1 hv2 hl2 => oi ?_)
  refine ⟨fun _ => ?_, fun h9 => absurd h9 (by decide +kernel)⟩
  intro rd3 e3
  rw [c_0, e1] at e3
  have g := hT (al1 (P := fun j => tK B n (ps B n r j) = 2) k1) va1 wd1 rd3 (gI (gd B n r 15 1)) hl2
  rw [show lD 15 (gd B n r 15 1) (tV B n (ps B n r 1)) (tV B n (ps B n r 2)) (tV B n (ps B n r 3)) td = (if td 0 = 40 then td else upd (upd (upd (upd td 0 (td 0 + 1)) (Int32.toNatClampNeg ((1 + 3 * td 0) + 0)) 5) (Int32.toNatClampNeg ((1 + 3 * td 0) + 1)) (tV B n (ps B n r 1))) (Int32.toNatClampNeg ((1 + 3 * td 0) + 2)) (-1)) from rfl] at g
  have r0 : rd3 0 = 5 := by rw [e3]; exact up_s
  have r1 : rd3 1 = (tV B n (ps B n r 1)) := by rw [e3, up_n (by omega), up_s]
  have r2 : rd3 2 = (-1) := by rw [e3, up_n (by omega), up_n (by omega), up_s]
  refine e_keep (W := 3) (by omega) hC.1 (fun h => ?_) (fun h => ?_)
  · rw [if_pos h] at g; exact g
  · rw [if_neg h] at g
    have e : kp td rd3 3 3 = upd (upd (upd (upd td 0 (td 0 + 1)) (Int32.toNatClampNeg ((1 + 3 * td 0) + 0)) (rd3 0)) (Int32.toNatClampNeg ((1 + 3 * td 0) + 1)) (rd3 1)) (Int32.toNatClampNeg ((1 + 3 * td 0) + 2)) (rd3 2) := rfl
    rw [e, r0, r1, r2]
    exact g
set_option maxRecDepth 20000 in
theorem e_sig_16 {tp B rd td : Nat → Int32} {n r : Nat} {va wr fa pl : Int32} {wd : Int64} {post : Int32 → Int32 → Int32 → Int32 → Int32 → Int64 → Int32 → Int32 → Int32 → (Nat → Int32) → (Nat → Int32) → Int32 → Prop} (hn : n ≤ 600) (hr : r ≤ n) (hB : ∀ j, j < n → tp j = B j) (hb : ∀ j, iv (-128) 127 (B j)) (hlp : ¬ fa = 0 → pl < (nI (tF B n r))) (hK0 : ¬ tK B n r = 0) (hC : CB 2 td)
    (hF : ∀ j, 1 ≤ j → j ≤ 2 → ¬ tK B n (ps B n r j) = 2 → (∀ i, 1 ≤ i → i < j → tK B n (ps B n r i) = 2) → ∀ (re be so va : Int32) (wd : Int64) (lf lp : Int32) (td rd : Nat → Int32) (gd : Int32), post 0 re be so va wd (nI (tF B n (ps B n r j))) lf lp td rd gd)
    (hT : (∀ j, 1 ≤ j → j ≤ 2 → tK B n (ps B n r j) = 2) → ∀ (va' : Int32) (wd' : Int64) (rd' : Nat → Int32) (gd' : Int32), (¬ mkF B n r 16 td fa 2 = 0 → mkP B n r 16 td fa pl 2 < (nI (tF B n (ps B n r 3)))) → post 1 (nI (tN B n (ps B n r 3))) (nI (tF B n (ps B n r 3))) (sI (tK B n (ps B n r 3))) va' wd' wr (mkF B n r 16 td fa 2) (mkP B n r 16 td fa pl 2) (lD 16 (gd B n r 16 2) (tV B n (ps B n r 1)) (tV B n (ps B n r 2)) (tV B n (ps B n r 3)) td) rd' gd') : q_m_sightLine_0 tp (nI (tN B n r)) (nI n) (nI (tF B n r)) (sI (tK B n r)) va wd wr fa pl td rd 1 (lN 448377483876) (nI (tF B n r)) post := by
  have hF1 := tF_nx hr hK0
  have htk := tk_le (B := B) hr
  have hl1 : ¬ mkF B n r 16 td fa 0 = 0 → mkP B n r 16 td fa pl 0 < nI (tF B n (tN B n r)) := LP_n hlp hF1.1 (by omega)
  refine ⟨fun _ => e_full (c := 0) (b := fu 16 td) (by omega) (by simp [fu]) hlp (e_tok (r := tN B n r) hn htk.2.1 hB hb (fun v1 w1 hv1 _ => ?_)), fun h9 => absurd h9 (by decide +kernel)⟩
  refine e_take (k := 1) (i := 1) (c := cW 16 0 (tV B n (ps B n r 1)) (tV B n (ps B n r 1))) (g := gd B n r 16 0) hn hr hB hb hv1 hl1 (by omega) rfl (fun hk => iz (hF 1 (by omega) (by omega) hk (be1 (P := fun j => tK B n (ps B n r j) = 2)) _ _ _ _ _ _ _ _ _ _)) (fun k1 va1 wd1 hv2 hl2 => oi ?_)
  refine e_take (k := 2) (i := 2) (c := cW 16 1 (tV B n (ps B n r 1)) (tV B n (ps B n r 2))) (g := gd B n r 16 1) hn hr hB hb hv2 hl2 (by omega) rfl (fun hk => zi (hF 2 (by omega) (by omega) hk (be2 (P := fun j => tK B n (ps B n r j) = 2) k1) _ _ _ _ _ _ _ _ _ _)) (fun k2 va2 wd2 hv3 hl3 => io ?_)
  refine ⟨fun h9 => absurd h9 (by decide +kernel), fun _ => ⟨vp_in_nI (n := 0) (by decide) (by decide), fun rd3 e3 => ?_⟩⟩
  rw [c_0] at e3
  have g := hT (al2 (P := fun j => tK B n (ps B n r j) = 2) k1 k2) va2 wd2 rd3 (gI (gd B n r 16 2)) hl3
  rw [show lD 16 (gd B n r 16 2) (tV B n (ps B n r 1)) (tV B n (ps B n r 2)) (tV B n (ps B n r 3)) td = (if td 0 = 10 then td else upd (upd (upd (upd td 0 (td 0 + 1)) (Int32.toNatClampNeg ((1 + 3 * td 0) + 0)) 1) (Int32.toNatClampNeg ((1 + 3 * td 0) + 1)) (tV B n (ps B n r 1))) (Int32.toNatClampNeg ((1 + 3 * td 0) + 2)) (tV B n (ps B n r 2))) from rfl] at g
  have r0 : rd3 0 = 1 := by rw [e3]; exact up_s
  have r1 : rd3 1 = (tV B n (ps B n r 1)) := by rw [e3, up_n (by omega), up_n (by omega), up_s]
  have r2 : rd3 2 = (tV B n (ps B n r 2)) := by rw [e3, up_n (by omega), up_s]
  refine e_keep (W := 3) (by omega) (iv_w hC.1 (by decide)) (fun h => ?_) (fun h => ?_)
  · rw [if_pos h] at g; exact g
  · rw [if_neg h] at g
    have e : kp td rd3 3 3 = upd (upd (upd (upd td 0 (td 0 + 1)) (Int32.toNatClampNeg ((1 + 3 * td 0) + 0)) (rd3 0)) (Int32.toNatClampNeg ((1 + 3 * td 0) + 1)) (rd3 1)) (Int32.toNatClampNeg ((1 + 3 * td 0) + 2)) (rd3 2) := rfl
    rw [e, r0, r1, r2]
    exact g
set_option maxRecDepth 20000 in
theorem e_sig_17 {tp B rd td : Nat → Int32} {n r : Nat} {va wr fa pl : Int32} {wd : Int64} {post : Int32 → Int32 → Int32 → Int32 → Int32 → Int64 → Int32 → Int32 → Int32 → (Nat → Int32) → (Nat → Int32) → Int32 → Prop} (hn : n ≤ 600) (hr : r ≤ n) (hB : ∀ j, j < n → tp j = B j) (hb : ∀ j, iv (-128) 127 (B j)) (hlp : ¬ fa = 0 → pl < (nI (tF B n r))) (hK0 : ¬ tK B n r = 0) (hC : CB 2 td)
    (hF : ∀ j, 1 ≤ j → j ≤ 2 → ¬ tK B n (ps B n r j) = 2 → (∀ i, 1 ≤ i → i < j → tK B n (ps B n r i) = 2) → ∀ (re be so va : Int32) (wd : Int64) (lf lp : Int32) (td rd : Nat → Int32) (gd : Int32), post 0 re be so va wd (nI (tF B n (ps B n r j))) lf lp td rd gd)
    (hT : (∀ j, 1 ≤ j → j ≤ 2 → tK B n (ps B n r j) = 2) → ∀ (va' : Int32) (wd' : Int64) (rd' : Nat → Int32) (gd' : Int32), (¬ mkF B n r 17 td fa 2 = 0 → mkP B n r 17 td fa pl 2 < (nI (tF B n (ps B n r 3)))) → post 1 (nI (tN B n (ps B n r 3))) (nI (tF B n (ps B n r 3))) (sI (tK B n (ps B n r 3))) va' wd' wr (mkF B n r 17 td fa 2) (mkP B n r 17 td fa pl 2) (lD 17 (gd B n r 17 2) (tV B n (ps B n r 1)) (tV B n (ps B n r 2)) (tV B n (ps B n r 3)) td) rd' gd') : q_m_sightLine_0 tp (nI (tN B n r)) (nI n) (nI (tF B n r)) (sI (tK B n r)) va wd wr fa pl td rd 1 (lN 1836414053) (nI (tF B n r)) post := by
  have hF1 := tF_nx hr hK0
  have htk := tk_le (B := B) hr
  have hl1 : ¬ mkF B n r 17 td fa 0 = 0 → mkP B n r 17 td fa pl 0 < nI (tF B n (tN B n r)) := LP_n hlp hF1.1 (by omega)
  refine ⟨fun h9 => absurd h9 (by decide +kernel), fun _ => ⟨fun _ => e_full (c := 0) (b := fu 17 td) (by omega) (by simp [fu]) hlp (e_tok (r := tN B n r) hn htk.2.1 hB hb (fun v1 w1 hv1 _ => ?_)), fun h9 => absurd h9 (by decide +kernel)⟩⟩
  refine e_take (k := 1) (i := 1) (c := cW 17 0 (tV B n (ps B n r 1)) (tV B n (ps B n r 1))) (g := gd B n r 17 0) hn hr hB hb hv1 hl1 (by omega) rfl (fun hk => iz (hF 1 (by omega) (by omega) hk (be1 (P := fun j => tK B n (ps B n r j) = 2)) _ _ _ _ _ _ _ _ _ _)) (fun k1 va1 wd1 hv2 hl2 => oi ?_)
  refine e_take (k := 2) (i := 2) (c := cW 17 1 (tV B n (ps B n r 1)) (tV B n (ps B n r 2))) (g := gd B n r 17 1) hn hr hB hb hv2 hl2 (by omega) rfl (fun hk => zi (hF 2 (by omega) (by omega) hk (be2 (P := fun j => tK B n (ps B n r j) = 2) k1) _ _ _ _ _ _ _ _ _ _)) (fun k2 va2 wd2 hv3 hl3 => io ?_)
  refine ⟨fun _ => ⟨vp_in_nI (n := 0) (by decide) (by decide), fun rd3 e3 => ?_⟩, fun h9 => absurd h9 (by decide +kernel)⟩
  rw [c_0] at e3
  have g := hT (al2 (P := fun j => tK B n (ps B n r j) = 2) k1 k2) va2 wd2 rd3 (gI (gd B n r 17 2)) hl3
  rw [show lD 17 (gd B n r 17 2) (tV B n (ps B n r 1)) (tV B n (ps B n r 2)) (tV B n (ps B n r 3)) td = (if td 0 = 10 then td else upd (upd (upd (upd td 0 (td 0 + 1)) (Int32.toNatClampNeg ((1 + 3 * td 0) + 0)) 0) (Int32.toNatClampNeg ((1 + 3 * td 0) + 1)) (tV B n (ps B n r 1))) (Int32.toNatClampNeg ((1 + 3 * td 0) + 2)) (tV B n (ps B n r 2))) from rfl] at g
  have r0 : rd3 0 = 0 := by rw [e3]; exact up_s
  have r1 : rd3 1 = (tV B n (ps B n r 1)) := by rw [e3, up_n (by omega), up_n (by omega), up_s]
  have r2 : rd3 2 = (tV B n (ps B n r 2)) := by rw [e3, up_n (by omega), up_s]
  refine e_keep (W := 3) (by omega) (iv_w hC.1 (by decide)) (fun h => ?_) (fun h => ?_)
  · rw [if_pos h] at g; exact g
  · rw [if_neg h] at g
    have e : kp td rd3 3 3 = upd (upd (upd (upd td 0 (td 0 + 1)) (Int32.toNatClampNeg ((1 + 3 * td 0) + 0)) (rd3 0)) (Int32.toNatClampNeg ((1 + 3 * td 0) + 1)) (rd3 1)) (Int32.toNatClampNeg ((1 + 3 * td 0) + 2)) (rd3 2) := rfl
    rw [e, r0, r1, r2]
    exact g
set_option maxRecDepth 20000 in
theorem e_cho_18 {tp B rd td : Nat → Int32} {n r : Nat} {va wr fa pl : Int32} {wd : Int64} {post : Int32 → Int32 → Int32 → Int32 → Int32 → Int64 → Int32 → Int32 → Int32 → (Nat → Int32) → (Nat → Int32) → Int32 → Prop} (hn : n ≤ 600) (hr : r ≤ n) (hB : ∀ j, j < n → tp j = B j) (hb : ∀ j, iv (-128) 127 (B j)) (hlp : ¬ fa = 0 → pl < (nI (tF B n r))) (hK0 : ¬ tK B n r = 0) (hC : CB 3 td)
    (hF : ∀ j, 1 ≤ j → j ≤ 2 → ¬ tK B n (ps B n r j) = 2 → (∀ i, 1 ≤ i → i < j → tK B n (ps B n r i) = 2) → ∀ (re be so va : Int32) (wd : Int64) (lf lp : Int32) (td rd : Nat → Int32) (gd : Int32), post 0 re be so va wd (nI (tF B n (ps B n r j))) lf lp td rd gd)
    (hT : (∀ j, 1 ≤ j → j ≤ 2 → tK B n (ps B n r j) = 2) → ∀ (va' : Int32) (wd' : Int64) (rd' : Nat → Int32) (gd' : Int32), (¬ mkF B n r 18 td fa 2 = 0 → mkP B n r 18 td fa pl 2 < (nI (tF B n (ps B n r 3)))) → post 1 (nI (tN B n (ps B n r 3))) (nI (tF B n (ps B n r 3))) (sI (tK B n (ps B n r 3))) va' wd' wr (mkF B n r 18 td fa 2) (mkP B n r 18 td fa pl 2) (lD 18 (gd B n r 18 2) (tV B n (ps B n r 1)) (tV B n (ps B n r 2)) (tV B n (ps B n r 3)) td) rd' gd') : q_m_choirLine_0 tp (nI (tN B n r)) (nI n) (nI (tF B n r)) (sI (tK B n r)) va wd wr fa pl td rd 1 (lN 508675318629) (nI (tF B n r)) post := by
  have hF1 := tF_nx hr hK0
  have htk := tk_le (B := B) hr
  have hl1 : ¬ mkF B n r 18 td fa 0 = 0 → mkP B n r 18 td fa pl 0 < nI (tF B n (tN B n r)) := LP_n hlp hF1.1 (by omega)
  refine ⟨fun _ => ⟨fun h9 => absurd h9 (by decide +kernel), fun _ => e_full (c := 0) (b := fu 18 td) (by omega) (by simp [fu]) hlp (e_tok (r := tN B n r) hn htk.2.1 hB hb (fun v1 w1 hv1 _ => ⟨fun _ => ?_, fun h9 => absurd h9 (by decide +kernel)⟩))⟩, fun h9 => absurd h9 (by decide +kernel)⟩
  refine e_take (k := 1) (i := 0) (c := cW 18 0 (tV B n (ps B n r 1)) (tV B n (ps B n r 1))) (g := gd B n r 18 0) hn hr hB hb hv1 hl1 (by omega) rfl (fun hk => iz (hF 1 (by omega) (by omega) hk (be1 (P := fun j => tK B n (ps B n r j) = 2)) _ _ _ _ _ _ _ _ _ _)) (fun k1 va1 wd1 hv2 hl2 => oi ?_)
  refine e_take (k := 2) (i := 1) (c := cW 18 1 (tV B n (ps B n r 1)) (tV B n (ps B n r 2))) (g := gd B n r 18 1) hn hr hB hb hv2 hl2 (by omega) rfl (fun hk => zi (hF 2 (by omega) (by omega) hk (be2 (P := fun j => tK B n (ps B n r j) = 2) k1) _ _ _ _ _ _ _ _ _ _)) (fun k2 va2 wd2 hv3 hl3 => io ?_)
  have r0 : (upd (upd rd 0 (tV B n (ps B n r 1))) 1 (tV B n (ps B n r 2))) 0 = (tV B n (ps B n r 1)) := by rw [up_n (by omega), up_s]
  have r1 : (upd (upd rd 0 (tV B n (ps B n r 1))) 1 (tV B n (ps B n r 2))) 1 = (tV B n (ps B n r 2)) := up_s
  have g := hT (al2 (P := fun j => tK B n (ps B n r j) = 2) k1 k2) va2 wd2 (upd (upd rd 0 (tV B n (ps B n r 1))) 1 (tV B n (ps B n r 2))) (gI (gd B n r 18 2)) hl3
  rw [show lD 18 (gd B n r 18 2) (tV B n (ps B n r 1)) (tV B n (ps B n r 2)) (tV B n (ps B n r 3)) td = (if td 0 = 9 then td else upd (upd (upd td 0 (td 0 + 1)) (Int32.toNatClampNeg ((1 + 2 * td 0) + 0)) (tV B n (ps B n r 1))) (Int32.toNatClampNeg ((1 + 2 * td 0) + 1)) (tV B n (ps B n r 2))) from rfl] at g
  refine e_keep (W := 2) (by omega) (iv_w hC.1 (by decide)) (fun h => ?_) (fun h => ?_)
  · rw [if_pos h] at g; exact g
  · rw [if_neg h] at g
    have e : kp td (upd (upd rd 0 (tV B n (ps B n r 1))) 1 (tV B n (ps B n r 2))) 2 2 = upd (upd (upd td 0 (td 0 + 1)) (Int32.toNatClampNeg ((1 + 2 * td 0) + 0)) ((upd (upd rd 0 (tV B n (ps B n r 1))) 1 (tV B n (ps B n r 2))) 0)) (Int32.toNatClampNeg ((1 + 2 * td 0) + 1)) ((upd (upd rd 0 (tV B n (ps B n r 1))) 1 (tV B n (ps B n r 2))) 1) := rfl
    rw [e, r0, r1]
    exact g
set_option maxRecDepth 20000 in
theorem e_cho_19 {tp B rd td : Nat → Int32} {n r : Nat} {va wr fa pl : Int32} {wd : Int64} {post : Int32 → Int32 → Int32 → Int32 → Int32 → Int64 → Int32 → Int32 → Int32 → (Nat → Int32) → (Nat → Int32) → Int32 → Prop} (hn : n ≤ 600) (hr : r ≤ n) (hB : ∀ j, j < n → tp j = B j) (hb : ∀ j, iv (-128) 127 (B j)) (hlp : ¬ fa = 0 → pl < (nI (tF B n r))) (hK0 : ¬ tK B n r = 0) 
    (hF : ∀ j, 1 ≤ j → j ≤ 1 → ¬ tK B n (ps B n r j) = 2 → (∀ i, 1 ≤ i → i < j → tK B n (ps B n r i) = 2) → ∀ (re be so va : Int32) (wd : Int64) (lf lp : Int32) (td rd : Nat → Int32) (gd : Int32), post 0 re be so va wd (nI (tF B n (ps B n r j))) lf lp td rd gd)
    (hT : (∀ j, 1 ≤ j → j ≤ 1 → tK B n (ps B n r j) = 2) → ∀ (va' : Int32) (wd' : Int64) (rd' : Nat → Int32) (gd' : Int32), (¬ mkF B n r 19 td fa 1 = 0 → mkP B n r 19 td fa pl 1 < (nI (tF B n (ps B n r 2)))) → post 1 (nI (tN B n (ps B n r 2))) (nI (tF B n (ps B n r 2))) (sI (tK B n (ps B n r 2))) va' wd' wr (mkF B n r 19 td fa 1) (mkP B n r 19 td fa pl 1) (lD 19 (gd B n r 19 1) (tV B n (ps B n r 1)) (tV B n (ps B n r 2)) (tV B n (ps B n r 3)) td) rd' gd') : q_m_choirLine_0 tp (nI (tN B n r)) (nI n) (nI (tF B n r)) (sI (tK B n r)) va wd wr fa pl td rd 1 (lN 1937007984) (nI (tF B n r)) post := by
  have hF1 := tF_nx hr hK0
  have htk := tk_le (B := B) hr
  have hl1 : ¬ mkF B n r 19 td fa 0 = 0 → mkP B n r 19 td fa pl 0 < nI (tF B n (tN B n r)) := LP_n hlp hF1.1 (by omega)
  have hfu : fu 19 td = false := by simp [fu]
  have e1 : mkF B n r 19 td fa 0 = fa := by show mF (!fu 19 td) fa 3 = fa; rw [hfu]; rfl
  have e2 : mkP B n r 19 td fa pl 0 = pl := by show mP (!fu 19 td) fa pl _ = pl; rw [hfu]; rfl
  have st : q_m_choirLine_37 tp (nI (tN B n r)) (nI n) (nI (tF B n r)) (sI (tK B n r)) va wd wr (mkF B n r 19 td fa 0) (mkP B n r 19 td fa pl 0) td rd 1 (lN 1937007984) post := by
    refine e_tok (r := tN B n r) hn htk.2.1 hB hb (fun v1 w1 hv1 _ => ⟨fun h9 => absurd h9 (by decide +kernel), fun _ => ?_⟩)
    exact e_plainLine_19 hn hr hB hb hv1 hl1 (fun j a b c d re be so va wd lf lp td rd gd => ⟨rfl, hF j a b c d re be so va wd lf lp td rd gd⟩) (fun hk va2 wd2 rd2 gd2 hl => ⟨rfl, hT hk va2 wd2 rd2 gd2 hl⟩)
  rw [e1, e2] at st
  exact ⟨fun h9 => absurd h9 (by decide +kernel), fun _ => ⟨fun _ => ⟨fun _ => st, fun h9 => absurd h9 (by decide +kernel)⟩, fun h9 => absurd h9 (by decide +kernel)⟩⟩
set_option maxRecDepth 20000 in
theorem e_lineOf {tp B rd td : Nat → Int32} {n r o : Nat} {va wr fa pl fh fs : Int32} {wd x : Int64} {post : Int32 → Int32 → Int32 → Int32 → Int32 → Int64 → Int32 → Int32 → Int32 → (Nat → Int32) → (Nat → Int32) → Int32 → Int32 → Int32 → Prop} (hn : n ≤ 600) (hr : r ≤ n) (hB : ∀ j, j < n → tp j = B j) (hb : ∀ j, iv (-128) 127 (B j)) (hlp : ¬ fa = 0 → pl < (nI (tF B n r))) (hK0 : ¬ tK B n r = 0) (ho : o ≤ 3) (hC : CB o td) (hw : tK B n r = 1 → x = tW B n r) (hw0 : ¬ tK B n r = 1 → x = 0)
    (hN : wOf B n r o = 20 → ∀ (re be so va : Int32) (wd : Int64) (lf lp : Int32) (td rd : Nat → Int32) (fh fs : Int32) (gd : Int32), post 0 re be so va wd (nI (tF B n r)) lf lp td rd fh fs gd)
    (hF : wOf B n r o < 20 → ∀ j, 1 ≤ j → j ≤ (nW (wOf B n r o)) → ¬ tK B n (ps B n r j) = 2 → (∀ i, 1 ≤ i → i < j → tK B n (ps B n r i) = 2) → ∀ (re be so va : Int32) (wd : Int64) (lf lp : Int32) (td rd : Nat → Int32) (fh fs : Int32) (gd : Int32), post 0 re be so va wd (nI (tF B n (ps B n r j))) lf lp td rd fh fs gd)
    (hT : wOf B n r o < 20 → (∀ j, 1 ≤ j → j ≤ (nW (wOf B n r o)) → tK B n (ps B n r j) = 2) → ∀ (va' : Int32) (wd' : Int64) (rd' : Nat → Int32) (gd' : Int32), (¬ mkF B n r (wOf B n r o) td fa (nW (wOf B n r o)) = 0 → mkP B n r (wOf B n r o) td fa pl (nW (wOf B n r o)) < (nI (tF B n (ps B n r ((nW (wOf B n r o)) + 1))))) → post 1 (nI (tN B n (ps B n r ((nW (wOf B n r o)) + 1)))) (nI (tF B n (ps B n r ((nW (wOf B n r o)) + 1)))) (sI (tK B n (ps B n r ((nW (wOf B n r o)) + 1)))) va' wd' wr (mkF B n r (wOf B n r o) td fa (nW (wOf B n r o))) (mkP B n r (wOf B n r o) td fa pl (nW (wOf B n r o))) (lD (wOf B n r o) (gd B n r (wOf B n r o) (nW (wOf B n r o))) (tV B n (ps B n r 1)) (tV B n (ps B n r 2)) (tV B n (ps B n r 3)) td) rd' (lH (wOf B n r o) (tV B n (ps B n r 1)) (tV B n (ps B n r 2)) fh) (lS (wOf B n r o) (tV B n (ps B n r 1)) fs) gd') : q_m_lineOf_0 tp (nI (tN B n r)) (nI n) (nI (tF B n r)) (sI (tK B n r)) va wd wr fa pl td rd fh fs 1 (nI o) x (nI (tF B n r)) post := by
  have hxz : ∀ j, j < 20 → (x = lN (wC.getD j 0) ↔ (tK B n r = 1 ∧ spl B (tF B n r) (tN B n r) j)) := by
    intro j hj
    by_cases hk : tK B n r = 1
    · rw [hw hk, tW_iff hr hb hj hk]
      exact ⟨fun h => ⟨hk, h⟩, fun h => h.2⟩
    · rw [hw0 hk]
      refine ⟨fun h => absurd h ?_, fun h => absurd h.1 hk⟩
      have : ∀ j, j < 20 → ¬ (0 : Int64) = lN (wC.getD j 0) := by decide +kernel
      exact this j hj
  have hoc : o = 0 ∨ o = 1 ∨ o = 2 ∨ o = 3 := by omega
  rcases wd_cases (B := B) (n := n) (r := r) ho with ⟨h20, hno⟩ | ⟨hlt, hP⟩
  · have hx : ∀ j, wlo o ≤ j → j < wlo (o + 1) → ¬ x = lN (wC.getD j 0) := by
      intro j h1 h2 h3
      have hj : j < 20 := Nat.lt_of_lt_of_le h2 (wlo_lt o ho).1
      have h4 := (hxz j hj).mp h3
      exact hno j ⟨h1, h2, h4.1, h4.2⟩
    have hp := hN h20
    rcases hoc with rfl | rfl | rfl | rfl
    · exact ⟨fun h9 => absurd h9 (by decide +kernel), fun _ => e_landNo hx ⟨rfl, hp _ _ _ _ _ _ _ _ _ _ _ _⟩, fun h9 => absurd h9 (by decide +kernel), fun h9 => absurd h9 (by decide +kernel)⟩
    · exact ⟨fun h9 => absurd h9 (by decide +kernel), fun h9 => absurd h9 (by decide +kernel), fun _ => e_eveNo hx ⟨rfl, hp _ _ _ _ _ _ _ _ _ _ _ _⟩, fun h9 => absurd h9 (by decide +kernel)⟩
    · exact ⟨fun h9 => absurd h9 (by decide +kernel), fun h9 => absurd h9 (by decide +kernel), fun h9 => absurd h9 (by decide +kernel), fun _ => e_sigNo hx ⟨rfl, hp _ _ _ _ _ _ _ _ _ _ _ _⟩⟩
    · exact ⟨fun _ => e_choNo hx ⟨rfl, hp _ _ _ _ _ _ _ _ _ _ _ _⟩, fun h9 => absurd h9 (by decide +kernel), fun h9 => absurd h9 (by decide +kernel), fun h9 => absurd h9 (by decide +kernel)⟩
  · have hF := hF hlt
    have hT := hT hlt
    have hx := (hxz _ hlt).mpr ⟨hP.2.2.1, hP.2.2.2⟩
    have h1 := hP.1
    have h2 := hP.2.1
    generalize wOf B n r o = w at hF hT hx h1 h2 hlt
    rcases hoc with rfl | rfl | rfl | rfl
    · have h3 : w < 10 := h2
      have h4 : 0 ≤ w := h1
      have hc : w = 0 ∨ w = 1 ∨ w = 2 ∨ w = 3 ∨ w = 4 ∨ w = 5 ∨ w = 6 ∨ w = 7 ∨ w = 8 ∨ w = 9 := by omega
      rcases hc with rfl | rfl | rfl | rfl | rfl | rfl | rfl | rfl | rfl | rfl
      · rw [hx]
        exact ⟨fun h9 => absurd h9 (by decide +kernel), fun _ => e_land_0 hn hr hB hb hlp hK0 hC (fun j a b c d re be so va wd lf lp td rd fh fs gd => ⟨rfl, hF j a b c d re be so va wd lf lp td rd fh fs gd⟩) (fun hk va2 wd2 rd2 gd2 hl => ⟨rfl, hT hk va2 wd2 rd2 gd2 hl⟩), fun h9 => absurd h9 (by decide +kernel), fun h9 => absurd h9 (by decide +kernel)⟩
      · rw [hx]
        exact ⟨fun h9 => absurd h9 (by decide +kernel), fun _ => e_land_1 hn hr hB hb hlp hK0 hC (fun j a b c d re be so va wd lf lp td rd fh fs gd => ⟨rfl, hF j a b c d re be so va wd lf lp td rd fh fs gd⟩) (fun hk va2 wd2 rd2 gd2 hl => ⟨rfl, hT hk va2 wd2 rd2 gd2 hl⟩), fun h9 => absurd h9 (by decide +kernel), fun h9 => absurd h9 (by decide +kernel)⟩
      · rw [hx]
        exact ⟨fun h9 => absurd h9 (by decide +kernel), fun _ => e_land_2 hn hr hB hb hlp hK0 hC (fun j a b c d re be so va wd lf lp td rd fh fs gd => ⟨rfl, hF j a b c d re be so va wd lf lp td rd fh fs gd⟩) (fun hk va2 wd2 rd2 gd2 hl => ⟨rfl, hT hk va2 wd2 rd2 gd2 hl⟩), fun h9 => absurd h9 (by decide +kernel), fun h9 => absurd h9 (by decide +kernel)⟩
      · rw [hx]
        exact ⟨fun h9 => absurd h9 (by decide +kernel), fun _ => e_land_3 hn hr hB hb hlp hK0 hC (fun j a b c d re be so va wd lf lp td rd fh fs gd => ⟨rfl, hF j a b c d re be so va wd lf lp td rd fh fs gd⟩) (fun hk va2 wd2 rd2 gd2 hl => ⟨rfl, hT hk va2 wd2 rd2 gd2 hl⟩), fun h9 => absurd h9 (by decide +kernel), fun h9 => absurd h9 (by decide +kernel)⟩
      · rw [hx]
        exact ⟨fun h9 => absurd h9 (by decide +kernel), fun _ => e_land_4 hn hr hB hb hlp hK0 hC (fun j a b c d re be so va wd lf lp td rd fh fs gd => ⟨rfl, hF j a b c d re be so va wd lf lp td rd fh fs gd⟩) (fun hk va2 wd2 rd2 gd2 hl => ⟨rfl, hT hk va2 wd2 rd2 gd2 hl⟩), fun h9 => absurd h9 (by decide +kernel), fun h9 => absurd h9 (by decide +kernel)⟩
      · rw [hx]
        exact ⟨fun h9 => absurd h9 (by decide +kernel), fun _ => e_land_5 hn hr hB hb hlp hK0 hC (fun j a b c d re be so va wd lf lp td rd fh fs gd => ⟨rfl, hF j a b c d re be so va wd lf lp td rd fh fs gd⟩) (fun hk va2 wd2 rd2 gd2 hl => ⟨rfl, hT hk va2 wd2 rd2 gd2 hl⟩), fun h9 => absurd h9 (by decide +kernel), fun h9 => absurd h9 (by decide +kernel)⟩
      · rw [hx]
        exact ⟨fun h9 => absurd h9 (by decide +kernel), fun _ => e_land_6 hn hr hB hb hlp hK0 hC (fun j a b c d re be so va wd lf lp td rd fh fs gd => ⟨rfl, hF j a b c d re be so va wd lf lp td rd fh fs gd⟩) (fun hk va2 wd2 rd2 gd2 hl => ⟨rfl, hT hk va2 wd2 rd2 gd2 hl⟩), fun h9 => absurd h9 (by decide +kernel), fun h9 => absurd h9 (by decide +kernel)⟩
      · rw [hx]
        exact ⟨fun h9 => absurd h9 (by decide +kernel), fun _ => e_land_7 hn hr hB hb hlp hK0 hC (fun j a b c d re be so va wd lf lp td rd fh fs gd => ⟨rfl, hF j a b c d re be so va wd lf lp td rd fh fs gd⟩) (fun hk va2 wd2 rd2 gd2 hl => ⟨rfl, hT hk va2 wd2 rd2 gd2 hl⟩), fun h9 => absurd h9 (by decide +kernel), fun h9 => absurd h9 (by decide +kernel)⟩
      · rw [hx]
        exact ⟨fun h9 => absurd h9 (by decide +kernel), fun _ => e_land_8 hn hr hB hb hlp hK0 hC (fun j a b c d re be so va wd lf lp td rd fh fs gd => ⟨rfl, hF j a b c d re be so va wd lf lp td rd fh fs gd⟩) (fun hk va2 wd2 rd2 gd2 hl => ⟨rfl, hT hk va2 wd2 rd2 gd2 hl⟩), fun h9 => absurd h9 (by decide +kernel), fun h9 => absurd h9 (by decide +kernel)⟩
      · rw [hx]
        exact ⟨fun h9 => absurd h9 (by decide +kernel), fun _ => e_land_9 hn hr hB hb hlp hK0 hC (fun j a b c d re be so va wd lf lp td rd fh fs gd => ⟨rfl, hF j a b c d re be so va wd lf lp td rd fh fs gd⟩) (fun hk va2 wd2 rd2 gd2 hl => ⟨rfl, hT hk va2 wd2 rd2 gd2 hl⟩), fun h9 => absurd h9 (by decide +kernel), fun h9 => absurd h9 (by decide +kernel)⟩
    · have h3 : w < 16 := h2
      have h4 : 10 ≤ w := h1
      have hc : w = 10 ∨ w = 11 ∨ w = 12 ∨ w = 13 ∨ w = 14 ∨ w = 15 := by omega
      rcases hc with rfl | rfl | rfl | rfl | rfl | rfl
      · rw [hx]
        exact ⟨fun h9 => absurd h9 (by decide +kernel), fun h9 => absurd h9 (by decide +kernel), fun _ => e_eve_10 hn hr hB hb hlp hK0 hC (fun j a b c d re be so va wd lf lp td rd gd => ⟨rfl, hF j a b c d re be so va wd lf lp td rd fh fs gd⟩) (fun hk va2 wd2 rd2 gd2 hl => ⟨rfl, hT hk va2 wd2 rd2 gd2 hl⟩), fun h9 => absurd h9 (by decide +kernel)⟩
      · rw [hx]
        exact ⟨fun h9 => absurd h9 (by decide +kernel), fun h9 => absurd h9 (by decide +kernel), fun _ => e_eve_11 hn hr hB hb hlp hK0 hC (fun j a b c d re be so va wd lf lp td rd gd => ⟨rfl, hF j a b c d re be so va wd lf lp td rd fh fs gd⟩) (fun hk va2 wd2 rd2 gd2 hl => ⟨rfl, hT hk va2 wd2 rd2 gd2 hl⟩), fun h9 => absurd h9 (by decide +kernel)⟩
      · rw [hx]
        exact ⟨fun h9 => absurd h9 (by decide +kernel), fun h9 => absurd h9 (by decide +kernel), fun _ => e_eve_12 hn hr hB hb hlp hK0 hC (fun j a b c d re be so va wd lf lp td rd gd => ⟨rfl, hF j a b c d re be so va wd lf lp td rd fh fs gd⟩) (fun hk va2 wd2 rd2 gd2 hl => ⟨rfl, hT hk va2 wd2 rd2 gd2 hl⟩), fun h9 => absurd h9 (by decide +kernel)⟩
      · rw [hx]
        exact ⟨fun h9 => absurd h9 (by decide +kernel), fun h9 => absurd h9 (by decide +kernel), fun _ => e_eve_13 hn hr hB hb hlp hK0 hC (fun j a b c d re be so va wd lf lp td rd gd => ⟨rfl, hF j a b c d re be so va wd lf lp td rd fh fs gd⟩) (fun hk va2 wd2 rd2 gd2 hl => ⟨rfl, hT hk va2 wd2 rd2 gd2 hl⟩), fun h9 => absurd h9 (by decide +kernel)⟩
      · rw [hx]
        exact ⟨fun h9 => absurd h9 (by decide +kernel), fun h9 => absurd h9 (by decide +kernel), fun _ => e_eve_14 hn hr hB hb hlp hK0 hC (fun j a b c d re be so va wd lf lp td rd gd => ⟨rfl, hF j a b c d re be so va wd lf lp td rd fh fs gd⟩) (fun hk va2 wd2 rd2 gd2 hl => ⟨rfl, hT hk va2 wd2 rd2 gd2 hl⟩), fun h9 => absurd h9 (by decide +kernel)⟩
      · rw [hx]
        exact ⟨fun h9 => absurd h9 (by decide +kernel), fun h9 => absurd h9 (by decide +kernel), fun _ => e_eve_15 hn hr hB hb hlp hK0 hC (fun j a b c d re be so va wd lf lp td rd gd => ⟨rfl, hF j a b c d re be so va wd lf lp td rd fh fs gd⟩) (fun hk va2 wd2 rd2 gd2 hl => ⟨rfl, hT hk va2 wd2 rd2 gd2 hl⟩), fun h9 => absurd h9 (by decide +kernel)⟩
    · have h3 : w < 18 := h2
      have h4 : 16 ≤ w := h1
      have hc : w = 16 ∨ w = 17 := by omega
      rcases hc with rfl | rfl
      · rw [hx]
        exact ⟨fun h9 => absurd h9 (by decide +kernel), fun h9 => absurd h9 (by decide +kernel), fun h9 => absurd h9 (by decide +kernel), fun _ => e_sig_16 hn hr hB hb hlp hK0 hC (fun j a b c d re be so va wd lf lp td rd gd => ⟨rfl, hF j a b c d re be so va wd lf lp td rd fh fs gd⟩) (fun hk va2 wd2 rd2 gd2 hl => ⟨rfl, hT hk va2 wd2 rd2 gd2 hl⟩)⟩
      · rw [hx]
        exact ⟨fun h9 => absurd h9 (by decide +kernel), fun h9 => absurd h9 (by decide +kernel), fun h9 => absurd h9 (by decide +kernel), fun _ => e_sig_17 hn hr hB hb hlp hK0 hC (fun j a b c d re be so va wd lf lp td rd gd => ⟨rfl, hF j a b c d re be so va wd lf lp td rd fh fs gd⟩) (fun hk va2 wd2 rd2 gd2 hl => ⟨rfl, hT hk va2 wd2 rd2 gd2 hl⟩)⟩
    · have h3 : w < 20 := h2
      have h4 : 18 ≤ w := h1
      have hc : w = 18 ∨ w = 19 := by omega
      rcases hc with rfl | rfl
      · rw [hx]
        exact ⟨fun _ => e_cho_18 hn hr hB hb hlp hK0 hC (fun j a b c d re be so va wd lf lp td rd gd => ⟨rfl, hF j a b c d re be so va wd lf lp td rd fh fs gd⟩) (fun hk va2 wd2 rd2 gd2 hl => ⟨rfl, hT hk va2 wd2 rd2 gd2 hl⟩), fun h9 => absurd h9 (by decide +kernel), fun h9 => absurd h9 (by decide +kernel), fun h9 => absurd h9 (by decide +kernel)⟩
      · rw [hx]
        exact ⟨fun _ => e_cho_19 hn hr hB hb hlp hK0 (fun j a b c d re be so va wd lf lp td rd gd => ⟨rfl, hF j a b c d re be so va wd lf lp td rd fh fs gd⟩) (fun hk va2 wd2 rd2 gd2 hl => ⟨rfl, hT hk va2 wd2 rd2 gd2 hl⟩), fun h9 => absurd h9 (by decide +kernel), fun h9 => absurd h9 (by decide +kernel), fun h9 => absurd h9 (by decide +kernel)⟩
