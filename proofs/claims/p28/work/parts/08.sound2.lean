/-! soundness: branches, stores, writes, answers, calls -/
section SN2
variable {Γ : en} {l : Launch} {St : State → Prop} {NC : Nat}
theorem sn_if_eq (hE : envOK Γ St) : k_if_eq (Snd Γ l St NC) := by
  intro b M pc L S h Q x off tgt hd ht k1 k2 p e s m args below meth c H locs ls hC hW hL
  obtain ⟨hx, hb, hr, hml, hown, hts, hlocks, hexc, hK, hSt⟩ := id hC
  obtain ⟨hP, hD, hS⟩ := id hW
  exact lv_if_eq hx hb hd ht (fun q => k1 q p e s m args below meth c H locs ls hC hW hL) (fun q => k2 q p e s m args below meth c H locs ls hC hW hL)
theorem sn_icmp_eq (hE : envOK Γ St) : k_icmp_eq (Snd Γ l St NC) := by
  intro b M pc L S h Q x y off tgt hd ht k1 k2 p e s m args below meth c H locs ls hC hW hL
  obtain ⟨hx, hb, hr, hml, hown, hts, hlocks, hexc, hK, hSt⟩ := id hC
  obtain ⟨hP, hD, hS⟩ := id hW
  exact lv_icmp_eq hx hb hd ht (fun q => k1 q p e s m args below meth c H locs ls hC hW hL) (fun q => k2 q p e s m args below meth c H locs ls hC hW hL)
theorem sn_if_ne (hE : envOK Γ St) : k_if_ne (Snd Γ l St NC) := by
  intro b M pc L S h Q x off tgt hd ht k1 k2 p e s m args below meth c H locs ls hC hW hL
  obtain ⟨hx, hb, hr, hml, hown, hts, hlocks, hexc, hK, hSt⟩ := id hC
  obtain ⟨hP, hD, hS⟩ := id hW
  exact lv_if_ne hx hb hd ht (fun q => k1 q p e s m args below meth c H locs ls hC hW hL) (fun q => k2 (fun z => z q) p e s m args below meth c H locs ls hC hW hL)
theorem sn_icmp_ne (hE : envOK Γ St) : k_icmp_ne (Snd Γ l St NC) := by
  intro b M pc L S h Q x y off tgt hd ht k1 k2 p e s m args below meth c H locs ls hC hW hL
  obtain ⟨hx, hb, hr, hml, hown, hts, hlocks, hexc, hK, hSt⟩ := id hC
  obtain ⟨hP, hD, hS⟩ := id hW
  exact lv_icmp_ne hx hb hd ht (fun q => k1 q p e s m args below meth c H locs ls hC hW hL) (fun q => k2 (fun z => z q) p e s m args below meth c H locs ls hC hW hL)
theorem sn_if_lt (hE : envOK Γ St) : k_if_lt (Snd Γ l St NC) := by
  intro b M pc L S h Q x off tgt hd ht k1 k2 p e s m args below meth c H locs ls hC hW hL
  obtain ⟨hx, hb, hr, hml, hown, hts, hlocks, hexc, hK, hSt⟩ := id hC
  obtain ⟨hP, hD, hS⟩ := id hW
  exact lv_if_lt hx hb hd ht (fun q => k1 q p e s m args below meth c H locs ls hC hW hL) (fun q => k2 q p e s m args below meth c H locs ls hC hW hL)
theorem sn_icmp_lt (hE : envOK Γ St) : k_icmp_lt (Snd Γ l St NC) := by
  intro b M pc L S h Q x y off tgt hd ht k1 k2 p e s m args below meth c H locs ls hC hW hL
  obtain ⟨hx, hb, hr, hml, hown, hts, hlocks, hexc, hK, hSt⟩ := id hC
  obtain ⟨hP, hD, hS⟩ := id hW
  exact lv_icmp_lt hx hb hd ht (fun q => k1 q p e s m args below meth c H locs ls hC hW hL) (fun q => k2 q p e s m args below meth c H locs ls hC hW hL)
theorem sn_if_ge (hE : envOK Γ St) : k_if_ge (Snd Γ l St NC) := by
  intro b M pc L S h Q x off tgt hd ht k1 k2 p e s m args below meth c H locs ls hC hW hL
  obtain ⟨hx, hb, hr, hml, hown, hts, hlocks, hexc, hK, hSt⟩ := id hC
  obtain ⟨hP, hD, hS⟩ := id hW
  exact lv_if_ge hx hb hd ht (fun q => k1 q p e s m args below meth c H locs ls hC hW hL) (fun q => k2 q p e s m args below meth c H locs ls hC hW hL)
theorem sn_icmp_ge (hE : envOK Γ St) : k_icmp_ge (Snd Γ l St NC) := by
  intro b M pc L S h Q x y off tgt hd ht k1 k2 p e s m args below meth c H locs ls hC hW hL
  obtain ⟨hx, hb, hr, hml, hown, hts, hlocks, hexc, hK, hSt⟩ := id hC
  obtain ⟨hP, hD, hS⟩ := id hW
  exact lv_icmp_ge hx hb hd ht (fun q => k1 q p e s m args below meth c H locs ls hC hW hL) (fun q => k2 q p e s m args below meth c H locs ls hC hW hL)
theorem sn_if_gt (hE : envOK Γ St) : k_if_gt (Snd Γ l St NC) := by
  intro b M pc L S h Q x off tgt hd ht k1 k2 p e s m args below meth c H locs ls hC hW hL
  obtain ⟨hx, hb, hr, hml, hown, hts, hlocks, hexc, hK, hSt⟩ := id hC
  obtain ⟨hP, hD, hS⟩ := id hW
  exact lv_if_gt hx hb hd ht (fun q => k1 q p e s m args below meth c H locs ls hC hW hL) (fun q => k2 q p e s m args below meth c H locs ls hC hW hL)
theorem sn_icmp_gt (hE : envOK Γ St) : k_icmp_gt (Snd Γ l St NC) := by
  intro b M pc L S h Q x y off tgt hd ht k1 k2 p e s m args below meth c H locs ls hC hW hL
  obtain ⟨hx, hb, hr, hml, hown, hts, hlocks, hexc, hK, hSt⟩ := id hC
  obtain ⟨hP, hD, hS⟩ := id hW
  exact lv_icmp_gt hx hb hd ht (fun q => k1 q p e s m args below meth c H locs ls hC hW hL) (fun q => k2 q p e s m args below meth c H locs ls hC hW hL)
theorem sn_if_le (hE : envOK Γ St) : k_if_le (Snd Γ l St NC) := by
  intro b M pc L S h Q x off tgt hd ht k1 k2 p e s m args below meth c H locs ls hC hW hL
  obtain ⟨hx, hb, hr, hml, hown, hts, hlocks, hexc, hK, hSt⟩ := id hC
  obtain ⟨hP, hD, hS⟩ := id hW
  exact lv_if_le hx hb hd ht (fun q => k1 q p e s m args below meth c H locs ls hC hW hL) (fun q => k2 q p e s m args below meth c H locs ls hC hW hL)
theorem sn_icmp_le (hE : envOK Γ St) : k_icmp_le (Snd Γ l St NC) := by
  intro b M pc L S h Q x y off tgt hd ht k1 k2 p e s m args below meth c H locs ls hC hW hL
  obtain ⟨hx, hb, hr, hml, hown, hts, hlocks, hexc, hK, hSt⟩ := id hC
  obtain ⟨hP, hD, hS⟩ := id hW
  exact lv_icmp_le hx hb hd ht (fun q => k1 q p e s m args below meth c H locs ls hC hW hL) (fun q => k2 q p e s m args below meth c H locs ls hC hW hL)
theorem sn_goto (hE : envOK Γ St) : k_goto (Snd Γ l St NC) := by
  intro b M pc L S h Q off tgt hd ht k1 p e s m args below meth c H locs ls hC hW hL
  obtain ⟨hx, hb, hr, hml, hown, hts, hlocks, hexc, hK, hSt⟩ := id hC
  obtain ⟨hP, hD, hS⟩ := id hW
  exact lv_goto hx hb hd ht (k1 p e s m args below meth c H locs ls hC hW hL)
theorem sn_tabI (hE : envOK Γ St) : k_tabI (Snd Γ l St NC) := by
  intro b M pc L S h Q dflt lo hi offs len x off tgt hd h1 h2 ho ht k1 p e s m args below meth c H locs ls hC hW hL
  obtain ⟨hx, hb, hr, hml, hown, hts, hlocks, hexc, hK, hSt⟩ := id hC
  obtain ⟨hP, hD, hS⟩ := id hW
  exact lv_tableIn hx hb hd h1 h2 ho ht (k1 p e s m args below meth c H locs ls hC hW hL)
theorem sn_tabO (hE : envOK Γ St) : k_tabO (Snd Γ l St NC) := by
  intro b M pc L S h Q dflt lo hi offs len x tgt hd h1 ht k1 p e s m args below meth c H locs ls hC hW hL
  obtain ⟨hx, hb, hr, hml, hown, hts, hlocks, hexc, hK, hSt⟩ := id hC
  obtain ⟨hP, hD, hS⟩ := id hW
  exact lv_tableOut hx hb hd h1 ht (k1 p e s m args below meth c H locs ls hC hW hL)
theorem sn_istore_n (hE : envOK Γ St) : k_istore_n (Snd Γ l St NC) := by
  intro b M pc L S h Q k i x hd hi hn k1 p e s m args below meth c H locs ls hC hW hL
  obtain ⟨hx, hb, hr, hml, hown, hts, hlocks, hexc, hK, hSt⟩ := id hC
  obtain ⟨hP, hD, hS⟩ := id hW
  refine lv_istore_n hx hb hd hi hL.has hn rfl (fun ls9 hl9 => ?_)
  exact k1 p e s m args below meth c H locs ls9 hC hW (hL.store (v := .int x) rfl hl9)
theorem sn_istore (hE : envOK Γ St) : k_istore (Snd Γ l St NC) := by
  intro b M pc L S h Q i x hd hn k1 p e s m args below meth c H locs ls hC hW hL
  obtain ⟨hx, hb, hr, hml, hown, hts, hlocks, hexc, hK, hSt⟩ := id hC
  obtain ⟨hP, hD, hS⟩ := id hW
  refine lv_istore hx hb hd hL.has hn rfl (fun ls9 hl9 => ?_)
  exact k1 p e s m args below meth c H locs ls9 hC hW (hL.store (v := .int x) rfl hl9)
theorem sn_astore_n (hE : envOK Γ St) : k_astore_n (Snd Γ l St NC) := by
  intro b M pc L S h Q k i x hd hi hn k1 p e s m args below meth c H locs ls hC hW hL
  obtain ⟨hx, hb, hr, hml, hown, hts, hlocks, hexc, hK, hSt⟩ := id hC
  obtain ⟨hP, hD, hS⟩ := id hW
  refine lv_astore_n hx hb hd hi hL.has hn rfl (fun ls9 hl9 => ?_)
  exact k1 p e s m args below meth c H locs ls9 hC hW (hL.store (v := .ref x) rfl hl9)
theorem sn_astore (hE : envOK Γ St) : k_astore (Snd Γ l St NC) := by
  intro b M pc L S h Q i x hd hn k1 p e s m args below meth c H locs ls hC hW hL
  obtain ⟨hx, hb, hr, hml, hown, hts, hlocks, hexc, hK, hSt⟩ := id hC
  obtain ⟨hP, hD, hS⟩ := id hW
  refine lv_astore hx hb hd hL.has hn rfl (fun ls9 hl9 => ?_)
  exact k1 p e s m args below meth c H locs ls9 hC hW (hL.store (v := .ref x) rfl hl9)
theorem sn_iinc (hE : envOK Γ St) : k_iinc (Snd Γ l St NC) := by
  intro b M pc L S h Q i n x v hd hl hv hn k1 p e s m args below meth c H locs ls hC hW hL
  obtain ⟨hx, hb, hr, hml, hown, hts, hlocks, hexc, hK, hSt⟩ := id hC
  obtain ⟨hP, hD, hS⟩ := id hW
  have hm : (i, Value.int x) ∈ lst Γ.1 L := lst_mem.mpr ⟨.int x, hl, (fun z => by cases z), rfl⟩
  obtain ⟨k9, hk9⟩ := List.getElem?_of_mem hm
  refine lv_iinc hx hb hd hL.has hk9 hv hn rfl (fun ls9 hl9 => ?_)
  exact k1 p e s m args below meth c H locs ls9 hC hW (hL.store (v := .int v) rfl hl9)
theorem sn_putf (hE : envOK Γ St) : k_putf NC (Snd Γ l St NC) := by
  intro b M pc L S h Q ci ix k C T N ty a fs x hd hc hk hw hn ha hf hty hlt k1 p e0 s m args below meth c H locs ls hC hW hL
  obtain ⟨hx, hb, hr, hml, hown, hts, hlocks, hexc, hK, hSt⟩ := id hC
  obtain ⟨hP, hD, hS⟩ := id hW
  have hnr : narrow (ty k) (.int x) = .int x ∧ fits (ty k) (.int x) = true := by
    rcases hty with h | ⟨h, rfl | rfl⟩ <;> rw [h]
    · exact ⟨rfl, rfl⟩
    · exact ⟨rfl, by decide⟩
    · exact ⟨rfl, by decide⟩
  refine va_put (D := Γ.2.1) (ci := ci) (v := .int x) (ty := ty k) (C := C) (T := T) (N := N) hx hb hts hc.2.1 ty hc.2.2.1 hc.2.2.2 hown hK hP hD hS a (ws_inr hn ha) hc.1 k hk (hts _ hw) (fun _ h9 => h9) hf (hc.2.2.1 k hk) hnr.1 hnr.2 (by rw [List.length_map]; exact hlt) hd (fun H1 locs1 hP1 hD1 hS1 => ?_)
  have e : ((fs.map (trV Γ.1)).set k (.int x)) = (fs.set k (.int x)).map (trV Γ.1) := by rw [List.map_set]; rfl
  have e2 : (wsOf Γ NC h).set a (Γ.1 a, .inr (ci, (fs.map (trV Γ.1)).set k (.int x))) = wsOf Γ NC (va_up h a (.inr (ci, fs.set k (.int x)))) := by
    rw [e]; exact ws_set (e := .inr (ci, fs.set k (.int x)))
  rw [e2] at hP1 hD1
  exact k1 p e0 s m args below meth c H1 locs1 ls hC ⟨hP1, hD1, hS1⟩ hL
theorem sn_iast (hE : envOK Γ St) : k_iast NC (Snd Γ l St NC) := by
  intro b M pc L S h Q a n f i x hd hn ha hi k1 p e s m args below meth c H locs ls hC hW hL
  obtain ⟨hx, hb, hr, hml, hown, hts, hlocks, hexc, hK, hSt⟩ := id hC
  obtain ⟨hP, hD, hS⟩ := id hW
  refine va_iast hx hb hK hP hD hS a 0 (ws_i hn ha) rfl hi hd (fun H1 locs1 hP1 hD1 hS1 => ?_)
  have e2 := ws_set (Γ := Γ) (NC := NC) (h := h) (a := a) (e := .inl (0, n, .inl (upd f i.toNatClampNeg x)))
  have e3 : (wsOf Γ NC h).set a (Γ.1 a, .inl (Γ.2.2.1 0, n, .inl (upd f i.toNatClampNeg x))) = wsOf Γ NC (va_up h a (.inl (0, n, .inl (upd f i.toNatClampNeg x)))) := e2
  rw [e3] at hP1 hD1
  exact k1 p e s m args below meth c H1 locs1 ls hC ⟨hP1, hD1, hS1⟩ hL
theorem sn_bast (hE : envOK Γ St) : k_bast NC (Snd Γ l St NC) := by
  intro b M pc L S h Q a n f i x hd hn ha hi k1 p e s m args below meth c H locs ls hC hW hL
  obtain ⟨hx, hb, hr, hml, hown, hts, hlocks, hexc, hK, hSt⟩ := id hC
  obtain ⟨hP, hD, hS⟩ := id hW
  refine va_bast hx hb hK hP hD hS a 1 (ws_i hn ha) rfl hi hd (fun H1 locs1 hP1 hD1 hS1 => ?_)
  have e2 := ws_set (Γ := Γ) (NC := NC) (h := h) (a := a) (e := .inl (1, n, .inl (upd f i.toNatClampNeg (vp_nar .byte x))))
  have e3 : (wsOf Γ NC h).set a (Γ.1 a, .inl (Γ.2.2.1 1, n, .inl (upd f i.toNatClampNeg (vp_nar .byte x)))) = wsOf Γ NC (va_up h a (.inl (1, n, .inl (upd f i.toNatClampNeg (vp_nar .byte x))))) := e2
  rw [e3] at hP1 hD1
  exact k1 p e s m args below meth c H1 locs1 ls hC ⟨hP1, hD1, hS1⟩ hL
theorem sn_zast (hE : envOK Γ St) : k_zast NC (Snd Γ l St NC) := by
  intro b M pc L S h Q a n f i x hd hn ha hi k1 p e s m args below meth c H locs ls hC hW hL
  obtain ⟨hx, hb, hr, hml, hown, hts, hlocks, hexc, hK, hSt⟩ := id hC
  obtain ⟨hP, hD, hS⟩ := id hW
  refine va_zast hx hb hK hP hD hS a 2 (ws_i hn ha) rfl hi hd (fun H1 locs1 hP1 hD1 hS1 => ?_)
  have e2 := ws_set (Γ := Γ) (NC := NC) (h := h) (a := a) (e := .inl (2, n, .inl (upd f i.toNatClampNeg (vp_nar .boolean x))))
  have e3 : (wsOf Γ NC h).set a (Γ.1 a, .inl (Γ.2.2.1 2, n, .inl (upd f i.toNatClampNeg (vp_nar .boolean x)))) = wsOf Γ NC (va_up h a (.inl (2, n, .inl (upd f i.toNatClampNeg (vp_nar .boolean x))))) := e2
  rw [e3] at hP1 hD1
  exact k1 p e s m args below meth c H1 locs1 ls hC ⟨hP1, hD1, hS1⟩ hL
theorem sn_iret (hE : envOK Γ St) : k_iret (Snd Γ l St NC) := by
  intro M pc L h Q x hd hret hq p e s m args below meth c H locs ls hC hW hL
  obtain ⟨hx, hb, hr, hml, hown, hts, hlocks, hexc, hK, hSt⟩ := id hC
  obtain ⟨hP, hD, hS⟩ := id hW
  have e : TG Γ NC none M Q below args s = MQ below (QcM Γ NC M Q) args s 0 0 Γ.2.2.2 := rfl
  rw [e]
  unfold QcM
  rw [hret]
  exact W.iret (v := x) hx hb (hr.trans hret) (fun t ht _ => ⟨⟨x, h, rfl, hq, by rw [BW, ht]; exact ⟨hP, hD⟩⟩, hS.F ht⟩) hS.2.2 hd hlocks
theorem sn_zret (hE : envOK Γ St) : k_zret (Snd Γ l St NC) := by
  intro M pc L h Q x hd hret hx01 hq p e s m args below meth c H locs ls hC hW hL
  obtain ⟨hx, hb, hr, hml, hown, hts, hlocks, hexc, hK, hSt⟩ := id hC
  obtain ⟨hP, hD, hS⟩ := id hW
  have e : TG Γ NC none M Q below args s = MQ below (QcM Γ NC M Q) args s 0 0 Γ.2.2.2 := rfl
  rw [e]
  unfold QcM
  rw [hret]
  exact W.zret (v := x) (ty := .boolean) hx hb (hr.trans hret) (by rcases hx01 with rfl | rfl <;> rfl) (fun t ht _ => ⟨⟨x, h, rfl, hq, by rw [BW, ht]; exact ⟨hP, hD⟩⟩, hS.F ht⟩) hS.2.2 hd hlocks
theorem sn_vret (hE : envOK Γ St) : k_vret (Snd Γ l St NC) := by
  intro M pc L h Q hd hret hq p e s m args below meth c H locs ls hC hW hL
  obtain ⟨hx, hb, hr, hml, hown, hts, hlocks, hexc, hK, hSt⟩ := id hC
  obtain ⟨hP, hD, hS⟩ := id hW
  have e : TG Γ NC none M Q below args s = MQ below (QcM Γ NC M Q) args s 0 0 Γ.2.2.2 := rfl
  rw [e]
  unfold QcM
  rw [hret]
  exact W.vret hx hb (hr.trans hret) (fun t ht _ => ⟨⟨h, rfl, hq, by rw [BW, ht]; exact ⟨hP, hD⟩⟩, hS.F ht⟩) hS.2.2 hd hlocks
theorem sn_fret (hE : envOK Γ St) : k_fret (Snd Γ l St NC) := by
  intro M pc L h Q x hd hret hq p e s m args below meth c H locs ls hC hW hL
  obtain ⟨hx, hb, hr, hml, hown, hts, hlocks, hexc, hK, hSt⟩ := id hC
  obtain ⟨hP, hD, hS⟩ := id hW
  have e : TG Γ NC none M Q below args s = MQ below (QcM Γ NC M Q) args s 0 0 Γ.2.2.2 := rfl
  rw [e]
  unfold QcM
  rw [hret]
  exact W.fret (v := x) hx hb (hr.trans hret) (fun t ht _ => ⟨⟨x, h, rfl, hq, by rw [BW, ht]; exact ⟨hP, hD⟩⟩, hS.F ht⟩) hS.2.2 hd hlocks
theorem rm_head (ws : List Cond) (rm : Room) : (headSpec ws rm).room = rm := rfl
/-- a method's start -/
def PcM (Γ : en) (St : State → Prop) (NC : Nat) (h : hp) (As : List Value) : Array Value → State → Prop := va_Pc (As.map (trV Γ.1)) (fun U => va_P Γ.2.1 vwCl (wsOf Γ NC h) U.heap ∧ va_D Γ.2.2.2 (wsOf Γ NC h) ∧ va_K Γ.2.1 vwCl (tysOf Γ) U ∧ St U)
theorem PcM.blind (hE : envOK Γ St) {h : hp} {As : List Value} : FrameBlind (PcM Γ St NC h As) := by
  intro a U g mk q
  obtain ⟨q0, qP, qD, qK, qS⟩ := q
  exact ⟨q0, qP, qD, va_K.moved (u := U) (U := U.calling g mk a) (Vm.Alike.refl U.vm) qK, hE.2.1 U g mk a qS⟩
/-- what the least relation says of a method's entry is a contract of the method -/
theorem met_of (hE : envOK Γ St) {Y : mt} {As : List Value} {h : hp} {Q : qt} (hpl : plainName Y.1.cls = true) (hc : cat1 As) (hn : As.length ≤ Y.2.2.1) (k : Snd Γ l St NC none Y 0 (pad Y.2.2.1 As) [] h Q) : Met l Y.1 (wsM Y) (rmM none Y) (PcM Γ St NC h As) (QcM Γ NC Y Q) 0 0 Γ.2.2.2 := by
  refine Met.ofW (cc := Y.2.1) (maxL := Y.2.2.1) (ret := Y.2.2.2.1) hpl rfl ?_
  intro p e s m args below meth c s₁ B hml hv
  obtain ⟨rfl, hP, hD, hK, hSt⟩ := hv
  have hts := atoms_spec (ws := wsM Y) B.pre
  have ht : ∀ x ∈ c.exceptionTable.toList, False := by
    obtain ⟨meth9, c9, h1, h2, -, -, -, -, h7, -⟩ := Cond.code_spec B.named (hts _ List.mem_cons_self)
    cases Option.some.inj (h1.symm.trans B.method)
    cases Option.some.inj (h2.symm.trans (Stand.of_body B).code)
    intro x hx
    rw [Array.isEmpty_iff.mp h7] at hx
    cases hx
  rw [lg_entry_eq]
  exact k p e s m _ below meth c s.heap [] _ ⟨B.exec, B.bytes, B.returns, hml, findClass_of_methodNamed B.named, fun w hw => hts w (List.mem_cons_of_mem _ hw), B.notSynchronized, ht, hK, hSt⟩ ⟨hP, hD, va_S.rf⟩ (entry_rel hc hn)
theorem metx_of (hE : envOK Γ St) {E : String} {Y : mt} {As : List Value} {h : hp} {Q : qt} (hpl : plainName Y.1.cls = true) (hc : cat1 As) (hn : As.length ≤ Y.2.2.1) (k : Snd Γ l St NC (some E) Y 0 (pad Y.2.2.1 As) [] h Q) : vx_Met l Y.1 (wsM Y) (rmM (some E) Y) (PcM Γ St NC h As) (fun _ _ _ _ => False) (XCx Γ NC E Q) 1 6 Γ.2.2.2 := by
  refine vx_ofW (cc := Y.2.1) (maxL := Y.2.2.1) (ret := Y.2.2.2.1) hpl rfl ?_
  intro p e s m args below meth c s₁ B hml ht hv
  obtain ⟨rfl, hP, hD, hK, hSt⟩ := hv
  have hts := atoms_spec (ws := wsM Y) B.pre
  rw [lg_entry_eq]
  exact k p e s m _ below meth c s.heap [] _ ⟨B.exec, B.bytes, B.returns, hml, findClass_of_methodNamed B.named, fun w hw => hts w (List.mem_cons_of_mem _ hw), B.notSynchronized, ht, hK, hSt⟩ ⟨hP, hD, va_S.rf⟩ (entry_rel hc hn)
theorem lnB_good {M Y : mt} {ix n : Nat} (h : lnB M ix Y n) : GoodIn gT (wsM Y) := by
  intro w hw
  rcases List.mem_cons.mp hw with rfl | hw
  · exact ⟨h.2.2.1, gT_good h.2.2.1⟩
  · exact ⟨hw, gT_good hw⟩
theorem lnV_good {M Y : mt} {ix n : Nat} (h : lnV M ix Y n) : GoodIn gT (wsV M.1.cls ix Y.1.cls Y.1 (wsM Y)) := by
  intro w hw
  unfold wsV at hw
  rcases List.mem_append.mp hw with hw | hw
  · simp only [List.mem_cons, List.not_mem_nil, or_false] at hw
    rcases hw with rfl | rfl | rfl | rfl
    · exact ⟨h.1.1, gT_good h.1.1⟩
    · exact ⟨h.2.1, gT_good h.2.1⟩
    · exact ⟨h.2.2.1, gT_good h.2.2.1⟩
    · exact ⟨h.1.2.1, gT_good h.1.2.1⟩
  · exact lnB_good h.1 w hw
theorem lnS_good {M Y : mt} {ix n : Nat} (h : lnS M ix Y n) : GoodIn gT (va_wsS M.1.cls ix Y.1 (wsM Y)) := by
  intro w hw
  unfold va_wsS at hw
  rcases List.mem_append.mp hw with hw | hw
  · simp only [List.mem_cons, List.not_mem_nil, or_false] at hw
    rcases hw with rfl | rfl | rfl
    · exact ⟨h.1.1, gT_good h.1.1⟩
    · exact ⟨h.2.1, gT_good h.2.1⟩
    · exact ⟨h.1.2.1, gT_good h.1.2.1⟩
  · exact lnB_good h.1 w hw
theorem cat_map {ad : Nat → Nat} {S : List Value} (h : catS S) : ((S.map (trV ad)).map fun v => v.category).sum ≤ 8 := by
  have e : (S.map (trV ad)).map (fun v => v.category) = S.map (fun v => v.category) := by
    rw [List.map_map]
    exact List.map_congr_left (fun v _ => trV_cat ad v)
  rw [e]
  exact h
theorem rev_map {ad : Nat → Nat} {As S : List Value} {a : Nat} : (As.reverse ++ .ref a :: S).map (trV ad) = (As.map (trV ad)).reverse ++ .ref (ad a) :: S.map (trV ad) := by
  rw [List.map_append, List.map_reverse]; rfl
theorem rev_mapS {ad : Nat → Nat} {As S : List Value} : (As.reverse ++ S).map (trV ad) = (As.map (trV ad)).reverse ++ S.map (trV ad) := by
  rw [List.map_append, List.map_reverse]
theorem pre_V (hE : envOK Γ St) {s : State} {H : Heap} {locs : List Loc} {h : hp} {a ci : Nat} {fs As : List Value} {C : String} {T : u_T} {N : Nat} (hP : va_P Γ.2.1 vwCl (wsOf Γ NC h) H) (hD : va_D Γ.2.2.2 (wsOf Γ NC h)) (hS : va_S Γ.2.2.2 s.heap H locs) (hK : va_K Γ.2.1 vwCl (tysOf Γ) s) (hSt : St s) (hn : a < NC) (ha : h a = .inr (ci, fs)) (hc : vwCl[ci]? = some (C, T, N)) : PreV s H C (Γ.1 a) (PcM Γ St NC h (.ref a :: As)) (As.map (trV Γ.1)) :=
  ⟨PcM.blind hE, va_recv hK hP hc (ws_inr hn ha), fun U hU hW => ⟨rfl, by rw [hU]; exact hP, hD, va_K.moved hW.alike hK, hE.1 s U H locs hSt hS hU hW⟩⟩
theorem pre_S (hE : envOK Γ St) {s : State} {H : Heap} {locs : List Loc} {h : hp} {As : List Value} (hP : va_P Γ.2.1 vwCl (wsOf Γ NC h) H) (hD : va_D Γ.2.2.2 (wsOf Γ NC h)) (hS : va_S Γ.2.2.2 s.heap H locs) (hK : va_K Γ.2.1 vwCl (tysOf Γ) s) (hSt : St s) : PreS s H (PcM Γ St NC h As) (As.map (trV Γ.1)) :=
  ⟨PcM.blind hE, fun U hU hW => ⟨rfl, by rw [hU]; exact hP, hD, va_K.moved hW.alike hK, hE.1 s U H locs hSt hS hU hW⟩⟩
theorem Qc_int {M : mt} {Q : qt} (h : M.2.2.2.1 = some .int ∨ M.2.2.2.1 = some .boolean) : QcM Γ NC M Q = va_Qi (fun (r : Int32) (u : hp) => Q (.int r) u) (BW Γ NC) Γ.2.2.2 := by
  unfold QcM
  rcases h with h | h <;> rw [h]
theorem Qc_void {M : mt} {Q : qt} (h : M.2.2.2.1 = none) : QcM Γ NC M Q = va_Qv (fun u : hp => Q .null u) (BW Γ NC) Γ.2.2.2 := by
  unfold QcM
  rw [h]
theorem rm_le (b : Option String) (M : mt) : 0 + 0 ≤ (rmM b M).cells ∧ 0 + 0 ≤ (rmM b M).slots := ⟨Nat.zero_le _, Nat.zero_le _⟩

theorem sn_cvi (hE : envOK Γ St) : k_cvi NC (Snd Γ l St NC) := by
  intro b M pc L S h Q ix n a ci Y As fs T N Q1 hd hl hlen hcA hcS hn ha hc hret k1 k2 p e s m args below meth c H locs ls hC hW hL
  obtain ⟨hx, hb, hr, hml, hown, hts, hlocks, hexc, hK, hSt⟩ := id hC
  obtain ⟨hP, hD, hS⟩ := id hW
  rw [rev_map]
  have hM := met_of (l := l) (Γ := Γ) (St := St) (NC := NC) hE (As := .ref a :: As) hl.1.2.2.2.2.1 (by unfold cat1 at hcA ⊢; simp only [List.all_cons, Bool.and_eq_true]; exact ⟨rfl, hcA⟩) (by have := hl.2.2.2; simp only [List.length_cons]; omega) k1
  have hcw := cwV (R := rmM b M) (own := M.1.cls) (index := ix) (C := Y.1.cls) (y := Y.1) (bytes := Y.2.1) (maxL := Y.2.2.1) (ret := Y.2.2.2.1) (ws := wsM Y) (rm := rmM none Y) (mc := 0) (ms := 0) n hts (lnV_good hl) rfl rfl rfl ⟨rfl, hl.1.2.2.2.1⟩ ⟨hl.1.2.2.2.2.2.1, hl.1.2.2.2.2.2.2⟩
  have hrun := va_runV (p := p) (e := e) (R := rmM b M) (below := below) (meth := meth) (cells := 0) (slots := 0) (locs := locs) (g := F0 m pc ls ((As.map (trV Γ.1)).reverse ++ .ref (Γ.1 a) :: S.map (trV Γ.1))) (rest := S.map (trV Γ.1)) ⟨hx, hb, hml, hown, hts⟩ hM hcw (pre_V hE hP hD hS hK hSt hn ha hc) rfl ((List.length_map ..).trans hlen) hL.1 rfl (lv_room (cat_map hcS)) hd (rm_le _ _)
  rw [Qc_int hret] at hrun
  refine va_calli hrun hS (fun q _ h => h) (fun q h => h) (fun r u t H1 locs1 ht hvm hq hB hz hk1 hS1 => ?_)
  exact k2 r u hq p e s m args below meth c H1 locs1 ls hC ⟨by rw [← ht]; exact hB.1, hB.2, hS1⟩ hL
theorem sn_csi (hE : envOK Γ St) : k_csi (Snd Γ l St NC) := by
  intro b M pc L S h Q ix n Y As Q1 hd hl hlen hcA hcS hret k1 k2 p e s m args below meth c H locs ls hC hW hL
  obtain ⟨hx, hb, hr, hml, hown, hts, hlocks, hexc, hK, hSt⟩ := id hC
  obtain ⟨hP, hD, hS⟩ := id hW
  rw [rev_mapS]
  have hM := met_of (l := l) (Γ := Γ) (St := St) (NC := NC) hE (As := As) hl.1.2.2.2.2.1 hcA (by have := hl.2.2; omega) k1
  have hcw := va_cwS (R := rmM b M) (own := M.1.cls) (index := ix) (y := Y.1) (bytes := Y.2.1) (maxL := Y.2.2.1) (ret := Y.2.2.2.1) (ws := wsM Y) (rm := rmM none Y) (mc := 0) (ms := 0) n hts (lnS_good hl) rfl rfl rfl hl.1.2.2.2.1 ⟨hl.1.2.2.2.2.2.1, hl.1.2.2.2.2.2.2⟩
  have hrun := va_runS (p := p) (e := e) (R := rmM b M) (below := below) (meth := meth) (cells := 0) (slots := 0) (locs := locs) (g := F0 m pc ls ((As.map (trV Γ.1)).reverse ++ S.map (trV Γ.1))) (rest := S.map (trV Γ.1)) ⟨hx, hb, hml, hown, hts⟩ hM hcw (pre_S hE hP hD hS hK hSt) rfl ((List.length_map ..).trans hlen) hL.1 rfl (lv_room (cat_map hcS)) hd (rm_le _ _)
  rw [Qc_int hret] at hrun
  refine va_calli hrun hS (fun q _ h => h) (fun q h => h) (fun r u t H1 locs1 ht hvm hq hB hz hk1 hS1 => ?_)
  exact k2 r u hq p e s m args below meth c H1 locs1 ls hC ⟨by rw [← ht]; exact hB.1, hB.2, hS1⟩ hL
theorem sn_cvv (hE : envOK Γ St) : k_cvv NC (Snd Γ l St NC) := by
  intro b M pc L S h Q ix n a ci Y As fs T N Q1 hd hl hlen hcA hcS hn ha hc hret k1 k2 p e s m args below meth c H locs ls hC hW hL
  obtain ⟨hx, hb, hr, hml, hown, hts, hlocks, hexc, hK, hSt⟩ := id hC
  obtain ⟨hP, hD, hS⟩ := id hW
  rw [rev_map]
  have hM := met_of (l := l) (Γ := Γ) (St := St) (NC := NC) hE (As := .ref a :: As) hl.1.2.2.2.2.1 (by unfold cat1 at hcA ⊢; simp only [List.all_cons, Bool.and_eq_true]; exact ⟨rfl, hcA⟩) (by have := hl.2.2.2; simp only [List.length_cons]; omega) k1
  have hcw := cwV (R := rmM b M) (own := M.1.cls) (index := ix) (C := Y.1.cls) (y := Y.1) (bytes := Y.2.1) (maxL := Y.2.2.1) (ret := Y.2.2.2.1) (ws := wsM Y) (rm := rmM none Y) (mc := 0) (ms := 0) n hts (lnV_good hl) rfl rfl rfl ⟨rfl, hl.1.2.2.2.1⟩ ⟨hl.1.2.2.2.2.2.1, hl.1.2.2.2.2.2.2⟩
  have hrun := va_runV (p := p) (e := e) (R := rmM b M) (below := below) (meth := meth) (cells := 0) (slots := 0) (locs := locs) (g := F0 m pc ls ((As.map (trV Γ.1)).reverse ++ .ref (Γ.1 a) :: S.map (trV Γ.1))) (rest := S.map (trV Γ.1)) ⟨hx, hb, hml, hown, hts⟩ hM hcw (pre_V hE hP hD hS hK hSt hn ha hc) rfl ((List.length_map ..).trans hlen) hL.1 rfl (lv_room (cat_map hcS)) hd (rm_le _ _)
  rw [Qc_void hret] at hrun
  refine va_callv hrun hS (fun q _ h => h) (fun q h => h) (fun u t H1 locs1 ht hvm hq hB hz hk1 hS1 => ?_)
  exact k2 u hq p e s m args below meth c H1 locs1 ls hC ⟨by rw [← ht]; exact hB.1, hB.2, hS1⟩ hL
theorem sn_csv (hE : envOK Γ St) : k_csv (Snd Γ l St NC) := by
  intro b M pc L S h Q ix n Y As Q1 hd hl hlen hcA hcS hret k1 k2 p e s m args below meth c H locs ls hC hW hL
  obtain ⟨hx, hb, hr, hml, hown, hts, hlocks, hexc, hK, hSt⟩ := id hC
  obtain ⟨hP, hD, hS⟩ := id hW
  rw [rev_mapS]
  have hM := met_of (l := l) (Γ := Γ) (St := St) (NC := NC) hE (As := As) hl.1.2.2.2.2.1 hcA (by have := hl.2.2; omega) k1
  have hcw := va_cwS (R := rmM b M) (own := M.1.cls) (index := ix) (y := Y.1) (bytes := Y.2.1) (maxL := Y.2.2.1) (ret := Y.2.2.2.1) (ws := wsM Y) (rm := rmM none Y) (mc := 0) (ms := 0) n hts (lnS_good hl) rfl rfl rfl hl.1.2.2.2.1 ⟨hl.1.2.2.2.2.2.1, hl.1.2.2.2.2.2.2⟩
  have hrun := va_runS (p := p) (e := e) (R := rmM b M) (below := below) (meth := meth) (cells := 0) (slots := 0) (locs := locs) (g := F0 m pc ls ((As.map (trV Γ.1)).reverse ++ S.map (trV Γ.1))) (rest := S.map (trV Γ.1)) ⟨hx, hb, hml, hown, hts⟩ hM hcw (pre_S hE hP hD hS hK hSt) rfl ((List.length_map ..).trans hlen) hL.1 rfl (lv_room (cat_map hcS)) hd (rm_le _ _)
  rw [Qc_void hret] at hrun
  refine va_callv hrun hS (fun q _ h => h) (fun q h => h) (fun u t H1 locs1 ht hvm hq hB hz hk1 hS1 => ?_)
  exact k2 u hq p e s m args below meth c H1 locs1 ls hC ⟨by rw [← ht]; exact hB.1, hB.2, hS1⟩ hL
theorem sn_cvx (hE : envOK Γ St) : k_cvx NC (Snd Γ l St NC) := by
  intro E M pc L S h Q ix n a ci Y As fs T N Q1 hd hl hlen hcA hcS hn ha hc hret k1 k2 p e s m args below meth c H locs ls hC hW hL
  obtain ⟨hx, hb, hr, hml, hown, hts, hlocks, hexc, hK, hSt⟩ := id hC
  obtain ⟨hP, hD, hS⟩ := id hW
  rw [rev_map]
  have hM := metx_of (l := l) (Γ := Γ) (St := St) (NC := NC) hE (As := .ref a :: As) hl.1.2.2.2.2.1 (by unfold cat1 at hcA ⊢; simp only [List.all_cons, Bool.and_eq_true]; exact ⟨rfl, hcA⟩) (by have := hl.2.2.2; simp only [List.length_cons]; omega) k1
  have hcw := cwV (R := rmM (some E) M) (own := M.1.cls) (index := ix) (C := Y.1.cls) (y := Y.1) (bytes := Y.2.1) (maxL := Y.2.2.1) (ret := Y.2.2.2.1) (ws := wsM Y) (rm := rmM (some E) Y) (mc := 1) (ms := 6) n hts (lnV_good hl) rfl rfl rfl ⟨rfl, hl.1.2.2.2.1⟩ ⟨hl.1.2.2.2.2.2.1, hl.1.2.2.2.2.2.2⟩
  have hrun := vx_runV (p := p) (e := e) (R := rmM (some E) M) (below := below) (meth := meth) (cells := 0) (slots := 0) (locs := locs) (g := F0 m pc ls ((As.map (trV Γ.1)).reverse ++ .ref (Γ.1 a) :: S.map (trV Γ.1))) (rest := S.map (trV Γ.1)) ⟨hx, hb, hml, hown, hts⟩ hM hcw (pre_V hE hP hD hS hK hSt hn ha hc) rfl ((List.length_map ..).trans hlen) hL.1 rfl (lv_room (cat_map hcS)) hd ⟨Nat.le_refl _, Nat.le_refl _⟩
  intro T hT X
  rcases hrun T hT X with ⟨v, st₀, t, T', L', h0, X', hL', e1, e2, hF, st⟩ | ⟨q, st₀, t, T', L', E', ce, h0, X', hL', e1, e2, ⟨rfl, ⟨u, hq, hWu⟩, hF⟩, hce, hcv, hcl, st⟩
  · exact hF.elim
  · obtain ⟨z1, z2, z3⟩ := vx_keep h0 e1 hS (fun q _ h => h) (fun q h => h) hL' hF
    have hout := vx_out (p := p) (l := l) (e := e) (R := rmM (some E') M) (s := s) (m := m) (args := args) (below := below) (meth := meth) (c := c) (H := T'.heap) (locs := locs ++ L') (cells := 1) (slots := 6) (Qc := fun _ _ _ _ => False) (XC := XCx Γ NC E' Q) (free := Γ.2.2.2) (pc := pc) (ls := ls) (rest := S.map (trV Γ.1)) (E := E') (ce := ce) (q := q) (mc := 1) (ms := 6) (fun x hx => (hexc x hx).elim) hlocks (by rw [e1]; exact hce) hcv hcl
      (fun t9 h9 hv9 => ⟨rfl, ⟨u, k2 u hq, by rw [h9, e1]; exact hWu⟩, z3.F h9⟩) z3.2.2 (Nat.le_refl _) (Nat.le_refl _)
    obtain ⟨t2, a1, b1⟩ := hout T' rfl X'
    exact ⟨t2, st.trans a1, b1⟩
theorem sn_csx (hE : envOK Γ St) : k_csx (Snd Γ l St NC) := by
  intro E M pc L S h Q ix n Y As Q1 hd hl hlen hcA hcS hret k1 k2 p e s m args below meth c H locs ls hC hW hL
  obtain ⟨hx, hb, hr, hml, hown, hts, hlocks, hexc, hK, hSt⟩ := id hC
  obtain ⟨hP, hD, hS⟩ := id hW
  rw [rev_mapS]
  have hM := metx_of (l := l) (Γ := Γ) (St := St) (NC := NC) hE (As := As) hl.1.2.2.2.2.1 hcA (by have := hl.2.2; omega) k1
  have hcw := va_cwS (R := rmM (some E) M) (own := M.1.cls) (index := ix) (y := Y.1) (bytes := Y.2.1) (maxL := Y.2.2.1) (ret := Y.2.2.2.1) (ws := wsM Y) (rm := rmM (some E) Y) (mc := 1) (ms := 6) n hts (lnS_good hl) rfl rfl rfl hl.1.2.2.2.1 ⟨hl.1.2.2.2.2.2.1, hl.1.2.2.2.2.2.2⟩
  have hrun := vx_runS (p := p) (e := e) (R := rmM (some E) M) (below := below) (meth := meth) (cells := 0) (slots := 0) (locs := locs) (g := F0 m pc ls ((As.map (trV Γ.1)).reverse ++ S.map (trV Γ.1))) (rest := S.map (trV Γ.1)) ⟨hx, hb, hml, hown, hts⟩ hM hcw (pre_S hE hP hD hS hK hSt) rfl ((List.length_map ..).trans hlen) hL.1 rfl (lv_room (cat_map hcS)) hd ⟨Nat.le_refl _, Nat.le_refl _⟩
  intro T hT X
  rcases hrun T hT X with ⟨v, st₀, t, T', L', h0, X', hL', e1, e2, hF, st⟩ | ⟨q, st₀, t, T', L', E', ce, h0, X', hL', e1, e2, ⟨rfl, ⟨u, hq, hWu⟩, hF⟩, hce, hcv, hcl, st⟩
  · exact hF.elim
  · obtain ⟨z1, z2, z3⟩ := vx_keep h0 e1 hS (fun q _ h => h) (fun q h => h) hL' hF
    have hout := vx_out (p := p) (l := l) (e := e) (R := rmM (some E') M) (s := s) (m := m) (args := args) (below := below) (meth := meth) (c := c) (H := T'.heap) (locs := locs ++ L') (cells := 1) (slots := 6) (Qc := fun _ _ _ _ => False) (XC := XCx Γ NC E' Q) (free := Γ.2.2.2) (pc := pc) (ls := ls) (rest := S.map (trV Γ.1)) (E := E') (ce := ce) (q := q) (mc := 1) (ms := 6) (fun x hx => (hexc x hx).elim) hlocks (by rw [e1]; exact hce) hcv hcl
      (fun t9 h9 hv9 => ⟨rfl, ⟨u, k2 u hq, by rw [h9, e1]; exact hWu⟩, z3.F h9⟩) z3.2.2 (Nat.le_refl _) (Nat.le_refl _)
    obtain ⟨t2, a1, b1⟩ := hout T' rfl X'
    exact ⟨t2, st.trans a1, b1⟩
end SN2
