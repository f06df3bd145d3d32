section SB
variable {p : Program} {l : Launch} {e : Env} {R : Room} {s : State} {mi : MethodId} {args : Array Value} {below : List Frame} {meth : Method} {c : Code} {H : Heap} {locs : List Loc} {cells slots : Nat} {Q : State → Prop}
variable {cc : ByteArray} {pc pc2 n nL : Nat} {ls : Array Slot} {ad : PR → Nat} {L L2 : List (Option PV)} {st st2 : List PV} {m m2 : PM} {i : Instr}
theorem lr_set (hl : LR ad nL L ls) {k : Nat} {v : PV} (h : lset L k v = some L2) (hv : vok v = true) {ls2 : Array Slot} (h2 : lv_has ls2 nL ((k, toV ad v) :: (lvl ad 0 L).filter (fun q => !(q.1 == k) && !(q.1 + 1 == k && q.2.category == 2)))) : LR ad nL L2 ls2 :=
  ⟨(lset_ok h hv hl.2.2).1.trans hl.1, lv_sub2 h2 (lset_in h), (lset_ok h hv hl.2.2).2⟩
theorem lr_set2 (hl : LR ad nL L ls) {k : Nat} {v : PV} (h : lset2 L k v = some L2) (hv : vok v = true) {ls2 : Array Slot} (h2 : lv_has ls2 nL ((k, toV ad v) :: (lvl ad 0 L).filter (fun q => !(q.1 == k) && (!(q.1 == k + 1) && !(q.1 + 1 == k && q.2.category == 2))))) : LR ad nL L2 ls2 :=
  ⟨(lset2_ok h hv hl.2.2).1.trans hl.1, lv_sub2 h2 (lset2_in h), (lset2_ok h hv hl.2.2).2⟩
theorem lr_lt (hl : LR ad nL L ls) {k : Nat} {v : PV} (h : lset L k v = some L2) : k < nL := by rw [← hl.1]; exact (lset_len h).1
theorem lr_lt2 (hl : LR ad nL L ls) {k : Nat} {v : PV} (h : lset2 L k v = some L2) : k + 1 < nL := by rw [← hl.1]; exact (lset2_len h).1
set_option maxHeartbeats 4000000 in
theorem sb_ok (hx : p.tables.exec = Jvm.exec) (hb : c.code = cc) (hl : LR ad nL L ls) (hs : SV st) (hd : decode cc pc = .ok (i, n)) (h : sm_b i n pc L st m = some (pc2, L2, st2, m2))
    (K : ∀ ls2 : Array Slot, m2 = m → LR ad nL L2 ls2 → SV st2 → W p l e R s mi args below meth c H locs cells slots Q (F0 mi pc2 ls2 (st2.map (toV ad)))) : W p l e R s mi args below meth c H locs cells slots Q (F0 mi pc ls (st.map (toV ad))) := by
  unfold sm_b at h
  split at h
  · split at h
    · split at h
      · next hk => cases h; exact lv_istore_n hx hb hd rfl hl.2.1 (lr_lt hl hk) rfl (fun ls2 h2 => K ls2 rfl (lr_set hl hk rfl h2) (sv_t hs))
      · cases h
    · cases h
  · split at h
    · split at h
      · next hk => cases h; exact lv_istore hx hb hd hl.2.1 (lr_lt hl hk) rfl (fun ls2 h2 => K ls2 rfl (lr_set hl hk rfl h2) (sv_t hs))
      · cases h
    · cases h
  · split at h
    · split at h
      · next hk => cases h; exact lv_lstore_n hx hb hd rfl hl.2.1 (lr_lt2 hl hk) rfl (fun ls2 h2 => K ls2 rfl (lr_set2 hl hk rfl h2) (sv_t hs))
      · cases h
    · cases h
  · split at h
    · split at h
      · next hk => cases h; exact lv_lstore hx hb hd hl.2.1 (lr_lt2 hl hk) rfl (fun ls2 h2 => K ls2 rfl (lr_set2 hl hk rfl h2) (sv_t hs))
      · cases h
    · cases h
  · split at h
    · split at h
      · next hk => cases h; exact lv_dstore_n hx hb hd rfl hl.2.1 (lr_lt2 hl hk) rfl (fun ls2 h2 => K ls2 rfl (lr_set2 hl hk rfl h2) (sv_t hs))
      · cases h
    · cases h
  · split at h
    · split at h
      · next hk => cases h; exact lv_dstore hx hb hd hl.2.1 (lr_lt2 hl hk) rfl (fun ls2 h2 => K ls2 rfl (lr_set2 hl hk rfl h2) (sv_t hs))
      · cases h
    · cases h
  · split at h
    · next x r =>
      split at h
      · next hk =>
        cases h
        have hv := sv_h hs
        cases x with
        | none => exact lv_astore_nN hx hb hd rfl hl.2.1 (lr_lt hl hk) rfl (fun ls2 h2 => K ls2 rfl (lr_set hl hk hv h2) (sv_t hs))
        | some r => exact lv_astore_n hx hb hd rfl hl.2.1 (lr_lt hl hk) rfl (fun ls2 h2 => K ls2 rfl (lr_set hl hk hv h2) (sv_t hs))
      · cases h
    · cases h
  · split at h
    · next x r =>
      split at h
      · next hk =>
        cases h
        have hv := sv_h hs
        cases x with
        | none => exact lv_astoreN hx hb hd hl.2.1 (lr_lt hl hk) rfl (fun ls2 h2 => K ls2 rfl (lr_set hl hk hv h2) (sv_t hs))
        | some r => exact lv_astore hx hb hd hl.2.1 (lr_lt hl hk) rfl (fun ls2 h2 => K ls2 rfl (lr_set hl hk hv h2) (sv_t hs))
      · cases h
    · cases h
  · next k d =>
    split at h
    · next x hk0 =>
      split at h
      · next hk =>
        cases h
        obtain ⟨q, hq⟩ := List.getElem?_of_mem ((lvl_mem (ad := ad) (i := 0) (j := k) (w := .int x)).mpr ⟨k, vI x, by omega, hk0, rfl⟩)
        exact lv_iinc hx hb hd hl.2.1 hq rfl (lr_lt hl hk) rfl (fun ls2 h2 => K ls2 rfl (lr_set hl hk rfl h2) hs)
      · cases h
    · cases h
  · split at h
    · split at h
      · next hc => cases h; exact lv_dup hx hb hd (by rw [toV_cat]; exact hc) (K ls rfl hl (sv_c (sv_h hs) hs))
      · cases h
    · cases h
  · split at h
    · split at h
      · next hc =>
        split at h
        · next hc2 => cases h; exact lv_dup2_11 hx hb hd (by rw [toV_cat]; exact hc) (by rw [toV_cat]; exact hc2) (K ls rfl hl (sv_c (sv_h hs) (sv_c (sv_h (sv_t hs)) hs)))
        · cases h
      · cases h
    · cases h
  · split at h
    · split at h
      · next hc => cases h; exact lv_pop hx hb hd (by rw [toV_cat]; exact hc) (K ls rfl hl (sv_t hs))
      · cases h
    · cases h
  · cases h
set_option maxHeartbeats 4000000 in
theorem sc_ok (hx : p.tables.exec = Jvm.exec) (hb : c.code = cc) (hs : SV st) (hd : decode cc pc = .ok (i, n)) (h : sm_c i n pc L st m = some (pc2, L2, st2, m2))
    (K : L2 = L → m2 = m → SV st2 → W p l e R s mi args below meth c H locs cells slots Q (F0 mi pc2 ls (st2.map (toV ad)))) : W p l e R s mi args below meth c H locs cells slots Q (F0 mi pc ls (st.map (toV ad))) := by
  unfold sm_c at h
  split at h
  · cases h; exact lv_iadd hx hb hd (K rfl rfl (sv_c rfl (sv_t (sv_t hs))))
  · cases h; exact lv_isub hx hb hd (K rfl rfl (sv_c rfl (sv_t (sv_t hs))))
  · cases h; exact lv_imul hx hb hd (K rfl rfl (sv_c rfl (sv_t (sv_t hs))))
  · cases h; exact lv_iand hx hb hd (K rfl rfl (sv_c rfl (sv_t (sv_t hs))))
  · cases h; exact lv_ior hx hb hd (K rfl rfl (sv_c rfl (sv_t (sv_t hs))))
  · cases h; exact lv_ixor hx hb hd (K rfl rfl (sv_c rfl (sv_t (sv_t hs))))
  · cases h; exact lv_ishl hx hb hd (K rfl rfl (sv_c rfl (sv_t (sv_t hs))))
  · cases h; exact lv_ishr hx hb hd (K rfl rfl (sv_c rfl (sv_t (sv_t hs))))
  · split at h
    · cases h
    · next hn => cases h; exact lv_idiv hx hb hd hn (K rfl rfl (sv_c rfl (sv_t (sv_t hs))))
  · split at h
    · cases h
    · next hn => cases h; exact lv_irem hx hb hd hn (K rfl rfl (sv_c rfl (sv_t (sv_t hs))))
  · cases h; exact lv_iushr hx hb hd rfl (K rfl rfl (sv_c rfl (sv_t (sv_t hs))))
  · cases h; exact lv_ineg hx hb hd (K rfl rfl (sv_c rfl (sv_t hs)))
  · cases h; exact lv_i2l hx hb hd rfl (K rfl rfl (sv_c rfl (sv_t hs)))
  · cases h; exact lv_i2d hx hb hd (K rfl rfl (sv_c rfl (sv_t hs)))
  · cases h; exact lv_ladd hx hb hd (K rfl rfl (sv_c rfl (sv_t (sv_t hs))))
  · cases h; exact lv_lsub hx hb hd (K rfl rfl (sv_c rfl (sv_t (sv_t hs))))
  · cases h; exact lv_lmul hx hb hd (K rfl rfl (sv_c rfl (sv_t (sv_t hs))))
  · cases h; exact lv_lshl hx hb hd rfl (K rfl rfl (sv_c rfl (sv_t (sv_t hs))))
  · cases h; exact W.lcmp hx hb hd (K rfl rfl (sv_c rfl (sv_t (sv_t hs))))
  · cases h; exact lv_dcmp hx hb hd (K rfl rfl (sv_c rfl (sv_t (sv_t hs))))
  · cases h; exact lv_d2l hx hb hd (K rfl rfl (sv_c rfl (sv_t hs)))
  · split at h
    · next hn => cases h; exact lv_dmul hx hb hd hn (K rfl rfl (sv_c rfl (sv_t (sv_t hs))))
    · cases h
  · split at h
    · next hn => cases h; exact lv_dsub hx hb hd hn (K rfl rfl (sv_c rfl (sv_t (sv_t hs))))
    · cases h
  · split at h
    · next hn => cases h; exact lv_ddiv hx hb hd hn (K rfl rfl (sv_c rfl (sv_t (sv_t hs))))
    · cases h
  · cases h
theorem bt_ok {pc t : Nat} {o : Int} (h : bt pc o = some t) : (pc : Int) + o = (t : Int) := by
  unfold bt at h
  split at h
  · next h2 => cases h; rw [h2]; rfl
  · cases h
set_option maxHeartbeats 4000000 in
theorem sd_ok (hx : p.tables.exec = Jvm.exec) (hb : c.code = cc) (hs : SV st) (hd : decode cc pc = .ok (i, n)) (h : sm_d i n pc L st m = some (pc2, L2, st2, m2))
    (K : L2 = L → m2 = m → SV st2 → W p l e R s mi args below meth c H locs cells slots Q (F0 mi pc2 ls (st2.map (toV ad)))) : W p l e R s mi args below meth c H locs cells slots Q (F0 mi pc ls (st.map (toV ad))) := by
  unfold sm_d at h
  split at h
  · split at h
    · next ht => cases h; exact lv_goto hx hb hd (bt_ok ht) (K rfl rfl hs)
    · cases h
  · split at h
    · split at h
      · next ht =>
        have ht := bt_ok ht
        split at h <;> cases h <;> have K2 := K rfl rfl (sv_t hs)
        · exact lv_if_eq hx hb hd ht (fun q => by rw [if_pos q] at K2; exact K2) (fun q => by rw [if_neg q] at K2; exact K2)
        · exact lv_if_ne hx hb hd ht (fun q => by rw [if_pos q] at K2; exact K2) (fun q => by rw [if_neg (fun z => z q)] at K2; exact K2)
        · exact lv_if_lt hx hb hd ht (fun q => by rw [if_pos q] at K2; exact K2) (fun q => by rw [if_neg q] at K2; exact K2)
        · exact lv_if_ge hx hb hd ht (fun q => by rw [if_pos q] at K2; exact K2) (fun q => by rw [if_neg q] at K2; exact K2)
        · exact lv_if_gt hx hb hd ht (fun q => by rw [if_pos q] at K2; exact K2) (fun q => by rw [if_neg q] at K2; exact K2)
        · exact lv_if_le hx hb hd ht (fun q => by rw [if_pos q] at K2; exact K2) (fun q => by rw [if_neg q] at K2; exact K2)
      · cases h
    · cases h
  · split at h
    · split at h
      · next ht =>
        have ht := bt_ok ht
        split at h <;> cases h <;> have K2 := K rfl rfl (sv_t (sv_t hs))
        · exact lv_icmp_eq hx hb hd ht (fun q => by rw [if_pos q] at K2; exact K2) (fun q => by rw [if_neg q] at K2; exact K2)
        · exact lv_icmp_ne hx hb hd ht (fun q => by rw [if_pos q] at K2; exact K2) (fun q => by rw [if_neg (fun z => z q)] at K2; exact K2)
        · exact lv_icmp_lt hx hb hd ht (fun q => by rw [if_pos q] at K2; exact K2) (fun q => by rw [if_neg q] at K2; exact K2)
        · exact lv_icmp_ge hx hb hd ht (fun q => by rw [if_pos q] at K2; exact K2) (fun q => by rw [if_neg q] at K2; exact K2)
        · exact lv_icmp_gt hx hb hd ht (fun q => by rw [if_pos q] at K2; exact K2) (fun q => by rw [if_neg q] at K2; exact K2)
        · exact lv_icmp_le hx hb hd ht (fun q => by rw [if_pos q] at K2; exact K2) (fun q => by rw [if_neg q] at K2; exact K2)
      · cases h
    · cases h
  · split at h
    · split at h
      · next ht => cases h; exact lv_ifnullN hx hb hd (bt_ok ht) (K rfl rfl (sv_t hs))
      · cases h
    · cases h; exact lv_ifnull hx hb hd (K rfl rfl (sv_t hs))
    · cases h
  · split at h
    · split at h
      · next ht => cases h; exact lv_ifnonnull hx hb hd (bt_ok ht) (K rfl rfl (sv_t hs))
      · cases h
    · cases h; exact lv_ifnonnullN hx hb hd (K rfl rfl (sv_t hs))
    · cases h
  · split at h
    · split at h
      · next hc =>
        split at h
        · next ht => cases h; exact lv_tableOut hx hb hd hc (bt_ok ht) (K rfl rfl (sv_t hs))
        · cases h
      · next hc =>
        split at h
        · next ho =>
          split at h
          · next ht => cases h; exact lv_tableIn hx hb hd (fun q => hc (Or.inl q)) (fun q => hc (Or.inr q)) ho (bt_ok ht) (K rfl rfl (sv_t hs))
          · cases h
        · cases h
    · cases h
  · split at h
    · split at h
      · next hp =>
        split at h
        · next ht => cases h; exact lv_lookup hx hb hd hp rfl (bt_ok ht) (K rfl rfl (sv_t hs))
        · cases h
      · cases h
    · cases h
  · cases h
end SB
