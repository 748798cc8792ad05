section SIM
variable {p : Program} {l : Launch} {e : Env} {R : Room} {s : State} {m : MethodId} {args : Array Value} {below : List Frame} {meth : Method} {c : Code} {Q : State → Prop}
variable {D : va_G} {tc : Nat → ClassId} {b0 : Nat} {sb : Nat → Nat} {L : Nat} {xs : Nat → Int32} {k n0 : Nat} {ad0 : Nat → Nat} {c0 s0 d : Nat} {r : Option (Option Value)} {hp' : Hp}
def zC (rv : Option (Option Value)) (h2 : Hp) (o : Nat) (z : Int32) (h3 : Hp) : Prop := match rv with
  | some (some (.int w)) => ∃ (nn : Nat) (f : Nat → Int64), hAt h2 o = .inl (1, nn, .inr (.inl f)) ∧ inB 0 nn = true ∧ z = 0 ∧ h3 = hSet h2 o (.inl (1, nn, .inr (.inl (vp_updL f 0 w.toInt64))))
  | none => z = 1 ∧ h3 = h2
  | _ => False
def Rule19 (p : Program) (l : Launch) (e : Env) (R : Room) (s : State) (m : MethodId) (args : Array Value) (below : List Frame) (meth : Method) (c : Code) (Q : State → Prop) (D : va_G) (tc : Nat → ClassId) (b0 : Nat) (sb : Nat → Nat) (L : Nat) (xs : Nat → Int32) (k n0 : Nat) (ad0 : Nat → Nat) (c0 s0 d : Nat) (hp' : Hp) : Prop :=
  ∀ (n pc ix len a b cc o x : Nat) (p0 p1 : Int32) (t fs lm : List Value) (hp h2 : Hp) (d' : Nat) (rv : Option (Option Value)) (ad : Nat → Nat) (H : Heap) (locs : List Loc) (cells slots : Nat) (ls : Array Slot),
    d = d' + 1 → (∀ n', n' ≤ n → CallOK l D tc b0 sb L xs n') → fe pc (MC k) = some (.invokestatic ix, len, a, b, cc, 19) → okD k pc (.invokestatic ix) → cs t ≤ 8 → hAt hp x = .inr (7, fs) → Nat.ble (enF [.ref x, .int p0, .int p1]).length (ML b) = true → run n d' b 0 (enL [.ref x, .int p0, .int p1] (ML b)) [] hp = some (rv, h2) → hLe h2 hp' →
    Frm s D tc b0 sb L xs k n0 ad0 c0 s0 ad hp H locs cells slots ls lm (.ref o :: .int p1 :: .int p0 :: .ref x :: t) →
    ∀ (z : Int32) (h3 : Hp), zC rv h2 o z h3 → (∀ (ad' : Nat → Nat) (H1 : Heap) (locs1 : List Loc) (cells1 slots1 : Nat), Frm s D tc b0 sb L xs k n0 ad0 c0 s0 ad' h3 H1 locs1 cells1 slots1 ls lm (.int z :: t) → W p l e R s m args below meth c H1 locs1 cells1 slots1 Q (F0 m (pc + 3) ls ((.int z :: t).map (rn ad')))) →
    W p l e R s m args below meth c H locs cells slots Q (F0 m pc ls ((.ref o :: .int p1 :: .int p0 :: .ref x :: t).map (rn ad)))
set_option maxHeartbeats 8000000 in
theorem sim (C : Cxf p s m args meth c D tc b0 sb L xs k)
    (hE : ∀ pc i len a b cc dd, fe pc (MC k) = some (i, len, a, b, cc, dd) → okD k pc i ∧ okEB k (pc, i, len, a, b, cc, dd) = true)
    (hM : ∀ j, j < 240 → okMX j) (hR : d + 8 ≤ R.frames ∧ 64 * d + 256 ≤ R.locals) (hB : hC hp' ≤ 700000 ∧ hC hp' ≤ c0 + R.cells ∧ hSl hp' ≤ s0 + R.slots)
    (hfin : ∀ ad H locs cells slots ls lm st hp pc, Frm s D tc b0 sb L xs k n0 ad0 c0 s0 ad hp H locs cells slots ls lm st → FinC k r hp' pc st hp → W p l e R s m args below meth c H locs cells slots Q (F0 m pc ls (st.map (rn ad))))
    (h19 : k = 240 → Rule19 p l e R s m args below meth c Q D tc b0 sb L xs k n0 ad0 c0 s0 d hp') :
    ∀ n, (∀ n', n' < n → CallOK l D tc b0 sb L xs n') → ∀ pc lm st hp, run n d k pc lm st hp = some (r, hp') → ∀ ad H locs cells slots ls, Frm s D tc b0 sb L xs k n0 ad0 c0 s0 ad hp H locs cells slots ls lm st → W p l e R s m args below meth c H locs cells slots Q (F0 m pc ls (st.map (rn ad))) := by
  obtain ⟨hx, hb, hml, hown, hts, hini, hK, hEv, hNw⟩ := id C
  intro n
  induction n with
  | zero => intro _ pc lm st hp h; simp [run] at h
  | succ n ih0 =>
  intro hcl pc lm st hp h ad H locs cells slots ls F
  have hmono := run_mono _ _ _ _ _ _ _ _ _ h
  simp only [run] at h
  cases hf : fe pc (MC k) with
  | none => simp [hf] at h
  | some ent =>
  simp only [hf] at h
  obtain ⟨i, len, a, b, cc, dd⟩ := ent
  obtain ⟨hd, hok⟩ := hE _ _ _ _ _ _ _ hf
  have ih : ∀ {pc : Nat} {lm st : List Value} {hp : Hp}, run n d k pc lm st hp = some (r, hp') → ∀ {ad : Nat → Nat} {H : Heap} {locs : List Loc} {cells slots : Nat} {ls : Array Slot}, Frm s D tc b0 sb L xs k n0 ad0 c0 s0 ad hp H locs cells slots ls lm st → W p l e R s m args below meth c H locs cells slots Q (F0 m pc ls (st.map (rn ad))) := fun h _ _ _ _ _ _ F => ih0 (fun n' hn => hcl n' (by omega)) _ _ _ _ h _ _ _ _ _ _ F
  clear ih0
  have hP := F.1
  have hDd := F.2.1
  have hSs := F.2.2.1
  have hl := F.2.2.2.1
  have hk := F.2.2.2.2.1
  have hOl := F.2.2.2.2.2.1
  have hOs := F.2.2.2.2.2.2.1
  have hcc : c0 + cells = hC hp := F.2.2.2.2.2.2.2.1
  have hss : s0 + slots = hSl hp := F.2.2.2.2.2.2.2.2.1
  have hA : ∀ q, s.heap.size ≤ q → (fun q : Nat => b0 ≤ q) q := fun q hq => Nat.le_trans hEv.2.2.2.2.1 hq
  have hbc : cells ≤ R.cells ∧ slots ≤ R.slots := by
    obtain ⟨z1, z2, z3⟩ := hmono
    omega
  have hLg : ∀ {j : Nat} {v : Value}, lm[j]? = some v → v ≠ jk → ls[j]? = some (.val (rn ad v)) := fun h1 h2 => hl.2.2.2 _ _ h1 h2
  have hLO : ∀ {j : Nat} {v : Value}, lm[j]? = some v → vO hp.1 v := fun h1 => hOl _ (List.mem_of_getElem? h1)
  have hLL : lm.length = ML k := hl.1
  have hsz : c.maxLocals = ls.size := by rw [hml, hl.2.1]
  have hhas := LR_has hl
  have nI' : ∀ x : Int32, (Value.int x) ≠ jk := fun _ z => by cases z
  have nL' : ∀ x : Int64, (Value.long x) ≠ jk := fun _ z => by cases z
  have nR' : ∀ x : Nat, (Value.ref x) ≠ jk := fun _ z => by cases z
  have nN' : Value.null ≠ jk := fun z => by cases z
  have blind : ∀ (as : List Value) (h1 : Hp), FrameBlind (va_Pc (as.map (rn ad)) (Wd D tc b0 sb L xs ad h1)) := fun as h1 a U g mk q => ⟨q.1, Wd_blind q.2 a g mk⟩
  have back : ∀ {t : List Value} {v : Option Value} {h2 : Hp} {ad' : Nat → Nat} {t2 : State} {locs1 : List Loc} {q : Nat}, (∀ w ∈ t, vO hp.1 w) → run n d k q lm (v.toList ++ t) h2 = some (r, hp') → hLe hp h2 → ag hp.1 ad ad' → Wd D tc b0 sb L xs ad' h2 t2 → (∀ w ∈ v.toList, ∀ q : Nat, w ≠ .ref q) → va_S (fun q => b0 ≤ q) s.heap t2.heap locs1 → W p l e R s m args below meth c t2.heap locs1 (cells + (hC h2 - hC hp)) (slots + (hSl h2 - hSl hp)) Q (F0 m q ls (v.toList ++ t.map (rn ad))) := by
    intro t v h2 ad' t2 locs1 q ht hr hle hag hw hnr hS1
    have h1 := ih hr (Frm_back F hle hag hw hS1 (app_O (norefs_O hnr) (fun w hw => vO_mono (ht w hw) hle.1)))
    rw [List.map_append, norefs_map hnr, List.map_congr_left (g := rn ad) (fun w hw => rn_ag hag (ht w hw))] at h1
    exact h1
  cases i with
  | aconst_null =>
    simp only [step] at h
    exact lv_null hx hb (okD_at hd 0 rfl) (ih h (Frm_st F (cons_O (vO_null _) hOs)))
  | iconst j =>
    simp only [step] at h
    exact lv_iconst hx hb (okD_at hd 0 rfl) rfl (ih h (Frm_st F (cons_O (vO_int _ _) hOs)))
  | lconst j =>
    simp only [step] at h
    exact lv_lconst hx hb (okD_at hd 0 rfl) rfl (ih h (Frm_st F (cons_O (vO_long _ _) hOs)))
  | bipush j =>
    simp only [step] at h
    exact lv_bipush hx hb (okD_at hd 1 rfl) rfl (ih h (Frm_st F (cons_O (vO_int _ _) hOs)))
  | sipush j =>
    simp only [step] at h
    exact lv_sipush hx hb (okD_at hd 2 rfl) rfl (ih h (Frm_st F (cons_O (vO_int _ _) hOs)))
  | ldc j =>
    simp only [step] at h
    split at h
    · simp only [okEB] at hok
      exact lv_ldc hx hb hown (hts _ (gW_TB hok rfl)) (okD_at hd 1 rfl) (ih h (Frm_st F (cons_O (vO_int _ _) hOs)))
    · split at h
      · exact rule_ldcS C F hok hd (ih h (Frm_st F (cons_O (vO_str _ _) hOs)))
      · cases h
    · cases h
  | ldc_w j =>
    simp only [step] at h
    split at h
    · simp only [okEB] at hok
      exact lv_ldcw hx hb hown (hts _ (gW_TB hok rfl)) (okD_at hd 2 rfl) (ih h (Frm_st F (cons_O (vO_int _ _) hOs)))
    · cases h
  | ldc2_w j =>
    simp only [step] at h
    simp only [okEB] at hok
    exact lv_ldc2 hx hb hown (hts _ (gW_TB hok rfl)) (okD_at hd 2 rfl) (ih h (Frm_st F (cons_O (vO_long _ _) hOs)))
  | iload j =>
    simp only [step] at h
    split at h
    · rename_i x h1
      exact lv_iload hx hb (okD_at hd 1 rfl) (hLg h1 (nI' _)) (ih h (Frm_st F (cons_O (vO_int _ _) hOs)))
    · cases h
  | iload_n j =>
    simp only [step] at h
    split at h
    · rename_i x h1
      exact lv_iload_n hx hb (okD_at hd 0 rfl) rfl (hLg h1 (nI' _)) (ih h (Frm_st F (cons_O (vO_int _ _) hOs)))
    · cases h
  | lload j =>
    simp only [step] at h
    split at h
    · rename_i x h1
      exact lv_lload hx hb (okD_at hd 1 rfl) (hLg h1 (nL' _)) (ih h (Frm_st F (cons_O (vO_long _ _) hOs)))
    · cases h
  | lload_n j =>
    simp only [step] at h
    split at h
    · rename_i x h1
      exact lv_lload_n hx hb (okD_at hd 0 rfl) rfl (hLg h1 (nL' _)) (ih h (Frm_st F (cons_O (vO_long _ _) hOs)))
    · cases h
  | aload j =>
    simp only [step] at h
    split at h
    · rename_i x h1
      exact lv_aload hx hb (okD_at hd 1 rfl) (hLg h1 (nR' _)) (ih h (Frm_st F (cons_O (hLO h1) hOs)))
    · rename_i h1
      exact lv_aloadN hx hb (okD_at hd 1 rfl) (hLg h1 nN') (ih h (Frm_st F (cons_O (vO_null _) hOs)))
    · cases h
  | aload_n j =>
    simp only [step] at h
    split at h
    · rename_i x h1
      exact lv_aload_n hx hb (okD_at hd 0 rfl) rfl (hLg h1 (nR' _)) (ih h (Frm_st F (cons_O (hLO h1) hOs)))
    · rename_i h1
      exact lv_aload_nN hx hb (okD_at hd 0 rfl) rfl (hLg h1 nN') (ih h (Frm_st F (cons_O (vO_null _) hOs)))
    · cases h
  | istore j =>
    simp only [step] at h
    repeat' split at h
    all_goals first
      | (cases h; done)
      | (rename_i hj
         exact lv_istore hx hb (okD_at hd 1 rfl) hhas (by omega) rfl (fun ls' hl' => ih h (Frm_ls F (LR_s1 hl (fun _ z => z) hl') (st1_O hOl _ (vO_int _ _)) (tail_O hOs))))
  | istore_n j =>
    simp only [step] at h
    repeat' split at h
    all_goals first
      | (cases h; done)
      | (rename_i hj
         exact lv_istore_n hx hb (okD_at hd 0 rfl) rfl hhas (by omega) rfl (fun ls' hl' => ih h (Frm_ls F (LR_s1 hl (fun _ z => z) hl') (st1_O hOl _ (vO_int _ _)) (tail_O hOs))))
  | lstore j =>
    simp only [step] at h
    repeat' split at h
    all_goals first
      | (cases h; done)
      | (rename_i hj
         exact lv_lstore hx hb (okD_at hd 1 rfl) hhas (by omega) rfl (fun ls' hl' => ih h (Frm_ls F (LR_s2 hl hl') (st2_O hOl _ (vO_long _ _)) (tail_O hOs))))
  | lstore_n j =>
    simp only [step] at h
    repeat' split at h
    all_goals first
      | (cases h; done)
      | (rename_i hj
         exact lv_lstore_n hx hb (okD_at hd 0 rfl) rfl hhas (by omega) rfl (fun ls' hl' => ih h (Frm_ls F (LR_s2 hl hl') (st2_O hOl _ (vO_long _ _)) (tail_O hOs))))
  | astore j =>
    simp only [step] at h
    repeat' split at h
    all_goals first
      | (cases h; done)
      | (rename_i hj
         exact lv_astore hx hb (okD_at hd 1 rfl) hhas (by omega) rfl (fun ls' hl' => ih h (Frm_ls F (LR_s1 hl (fun _ z => z) hl') (st1_O hOl _ (hOs _ List.mem_cons_self)) (tail_O hOs))))
      | (rename_i hj
         exact lv_astoreN hx hb (okD_at hd 1 rfl) hhas (by omega) rfl (fun ls' hl' => ih h (Frm_ls F (LR_s1 hl (fun _ z => z) hl') (st1_O hOl _ (vO_null _)) (tail_O hOs))))
  | astore_n j =>
    simp only [step] at h
    repeat' split at h
    all_goals first
      | (cases h; done)
      | (rename_i hj
         exact lv_astore_n hx hb (okD_at hd 0 rfl) rfl hhas (by omega) rfl (fun ls' hl' => ih h (Frm_ls F (LR_s1 hl (fun _ z => z) hl') (st1_O hOl _ (hOs _ List.mem_cons_self)) (tail_O hOs))))
      | (rename_i hj
         exact lv_astore_nN hx hb (okD_at hd 0 rfl) rfl hhas (by omega) rfl (fun ls' hl' => ih h (Frm_ls F (LR_s1 hl (fun _ z => z) hl') (st1_O hOl _ (vO_null _)) (tail_O hOs))))
  | iinc j z0 =>
    simp only [step] at h
    split at h
    · rename_i x h1
      have hj : j < ML k := by rw [← hLL]; exact (List.getElem?_eq_some_iff.mp h1).1
      have hh2 : lv_has ls (ML k) ((j, Value.int x) :: lvl ad lm) := ⟨hhas.1, hhas.2.1, fun q hq => (List.mem_cons.mp hq).elim (fun e => by rw [e]; exact hLg h1 (nI' _)) (hhas.2.2 q)⟩
      exact lv_iinc (k := 0) hx hb (okD_at hd 2 rfl) hh2 rfl rfl hj rfl (fun ls' hl' => ih h (Frm_ls F (LR_s1 hl (fun _ z => List.mem_cons_of_mem _ z) hl') (st1_O hOl _ (vO_int _ _)) hOs))
    · cases h
  | dup =>
    simp only [step] at h
    split at h
    · exact lv_dup hx hb (okD_at hd 0 rfl) rfl (ih h (Frm_st F (cons_O (vO_int _ _) hOs)))
    · exact lv_dup hx hb (okD_at hd 0 rfl) rfl (ih h (Frm_st F (cons_O (hOs _ List.mem_cons_self) hOs)))
    · cases h
  | dup_x1 =>
    simp only [step] at h
    split at h
    · exact lv_dup_x1 hx hb (okD_at hd 0 rfl) rfl rfl (ih h (Frm_st F (cons_O (vO_int _ _) (cons_O (hOs _ (List.mem_cons_of_mem _ List.mem_cons_self)) (cons_O (vO_int _ _) (tail_O (tail_O hOs)))))))
    · cases h
  | dup2 =>
    simp only [step] at h
    split at h
    · exact lv_dup2_11 hx hb (okD_at hd 0 rfl) rfl rfl (ih h (Frm_st F (cons_O (vO_int _ _) (cons_O (hOs _ (List.mem_cons_of_mem _ List.mem_cons_self)) hOs))))
    · cases h
  | pop =>
    simp only [step] at h
    split at h
    · exact lv_pop hx hb (okD_at hd 0 rfl) rfl (ih h (Frm_st F (tail_O hOs)))
    · cases h
  | pop2 =>
    simp only [step] at h
    split at h
    · exact lv_pop2_2 hx hb (okD_at hd 0 rfl) rfl (ih h (Frm_st F (tail_O hOs)))
    · cases h
  | iadd =>
    simp only [step] at h
    split at h
    · exact lv_iadd hx hb (okD_at hd 0 rfl) (ih h (Frm_st F (cons_O (vO_int _ _) (tail_O (tail_O hOs)))))
    · cases h
  | isub =>
    simp only [step] at h
    split at h
    · exact lv_isub hx hb (okD_at hd 0 rfl) (ih h (Frm_st F (cons_O (vO_int _ _) (tail_O (tail_O hOs)))))
    · cases h
  | imul =>
    simp only [step] at h
    split at h
    · exact lv_imul hx hb (okD_at hd 0 rfl) (ih h (Frm_st F (cons_O (vO_int _ _) (tail_O (tail_O hOs)))))
    · cases h
  | idiv =>
    simp only [step] at h
    repeat' split at h
    all_goals first
      | (cases h; done)
      | (rename_i hj; exact lv_idiv hx hb (okD_at hd 0 rfl) hj (ih h (Frm_st F (cons_O (vO_int _ _) (tail_O (tail_O hOs))))))
  | irem =>
    simp only [step] at h
    repeat' split at h
    all_goals first
      | (cases h; done)
      | (rename_i hj; exact lv_irem hx hb (okD_at hd 0 rfl) hj (ih h (Frm_st F (cons_O (vO_int _ _) (tail_O (tail_O hOs))))))
  | ineg =>
    simp only [step] at h
    split at h
    · exact lv_ineg hx hb (okD_at hd 0 rfl) (ih h (Frm_st F (cons_O (vO_int _ _) (tail_O hOs))))
    · cases h
  | ishl =>
    simp only [step] at h
    split at h
    · exact lv_ishl hx hb (okD_at hd 0 rfl) (ih h (Frm_st F (cons_O (vO_int _ _) (tail_O (tail_O hOs)))))
    · cases h
  | ishr =>
    simp only [step] at h
    split at h
    · exact lv_ishr hx hb (okD_at hd 0 rfl) (ih h (Frm_st F (cons_O (vO_int _ _) (tail_O (tail_O hOs)))))
    · cases h
  | iushr =>
    simp only [step] at h
    split at h
    · exact lv_iushr hx hb (okD_at hd 0 rfl) rfl (ih h (Frm_st F (cons_O (vO_int _ _) (tail_O (tail_O hOs)))))
    · cases h
  | iand =>
    simp only [step] at h
    split at h
    · exact lv_iand hx hb (okD_at hd 0 rfl) (ih h (Frm_st F (cons_O (vO_int _ _) (tail_O (tail_O hOs)))))
    · cases h
  | ior =>
    simp only [step] at h
    split at h
    · exact lv_ior hx hb (okD_at hd 0 rfl) (ih h (Frm_st F (cons_O (vO_int _ _) (tail_O (tail_O hOs)))))
    · cases h
  | ixor =>
    simp only [step] at h
    split at h
    · exact lv_ixor hx hb (okD_at hd 0 rfl) (ih h (Frm_st F (cons_O (vO_int _ _) (tail_O (tail_O hOs)))))
    · cases h
  | ladd =>
    simp only [step] at h
    split at h
    · exact lv_ladd hx hb (okD_at hd 0 rfl) (ih h (Frm_st F (cons_O (vO_long _ _) (tail_O (tail_O hOs)))))
    · cases h
  | lsub =>
    simp only [step] at h
    split at h
    · exact lv_lsub hx hb (okD_at hd 0 rfl) (ih h (Frm_st F (cons_O (vO_long _ _) (tail_O (tail_O hOs)))))
    · cases h
  | lmul =>
    simp only [step] at h
    split at h
    · exact lv_lmul hx hb (okD_at hd 0 rfl) (ih h (Frm_st F (cons_O (vO_long _ _) (tail_O (tail_O hOs)))))
    · cases h
  | ldiv =>
    simp only [step] at h
    repeat' split at h
    all_goals first
      | (cases h; done)
      | (rename_i hj; exact lv_ldiv hx hb (okD_at hd 0 rfl) hj (ih h (Frm_st F (cons_O (vO_long _ _) (tail_O (tail_O hOs))))))
  | lrem =>
    simp only [step] at h
    repeat' split at h
    all_goals first
      | (cases h; done)
      | (rename_i hj; exact lv_lrem hx hb (okD_at hd 0 rfl) hj (ih h (Frm_st F (cons_O (vO_long _ _) (tail_O (tail_O hOs))))))
  | lcmp =>
    simp only [step] at h
    split at h
    · exact W.lcmp hx hb (okD_at hd 0 rfl) (ih h (Frm_st F (cons_O (vO_int _ _) (tail_O (tail_O hOs)))))
    · cases h
  | i2l =>
    simp only [step] at h
    split at h
    · exact lv_i2l hx hb (okD_at hd 0 rfl) rfl (ih h (Frm_st F (cons_O (vO_long _ _) (tail_O hOs))))
    · cases h
  | l2i =>
    simp only [step] at h
    split at h
    · exact lv_l2i hx hb (okD_at hd 0 rfl) rfl (ih h (Frm_st F (cons_O (vO_int _ _) (tail_O hOs))))
    · cases h
  | i2b =>
    simp only [step] at h
    split at h
    · exact lv_i2b hx hb (okD_at hd 0 rfl) rfl (ih h (Frm_st F (cons_O (vO_int _ _) (tail_O hOs))))
    · cases h
  | goto off =>
    simp only [step] at h
    simp only [okEB, decide_eq_true_eq] at hok
    exact lv_goto hx hb (okD_at hd 2 rfl) hok (ih h F)
  | ifCond cd off =>
    simp only [step] at h
    simp only [okEB, decide_eq_true_eq] at hok
    split at h
    · have F1 := Frm_st F (tail_O hOs)
      cases cd with
      | eq => exact lv_if_eq hx hb (okD_at hd 2 rfl) hok (fun z => ih (by dsimp only at h; rw [if_pos z] at h; exact h) F1) (fun z => ih (by dsimp only at h; rw [if_neg z] at h; exact h) F1)
      | ne => exact lv_if_ne hx hb (okD_at hd 2 rfl) hok (fun z => ih (by dsimp only at h; rw [if_neg z] at h; exact h) F1) (fun z => ih (by dsimp only at h; rw [if_pos z] at h; exact h) F1)
      | lt => exact lv_if_lt hx hb (okD_at hd 2 rfl) hok (fun z => ih (by dsimp only at h; rw [if_pos z] at h; exact h) F1) (fun z => ih (by dsimp only at h; rw [if_neg z] at h; exact h) F1)
      | ge => exact lv_if_ge hx hb (okD_at hd 2 rfl) hok (fun z => ih (by dsimp only at h; rw [if_pos z] at h; exact h) F1) (fun z => ih (by dsimp only at h; rw [if_neg z] at h; exact h) F1)
      | gt => exact lv_if_gt hx hb (okD_at hd 2 rfl) hok (fun z => ih (by dsimp only at h; rw [if_pos z] at h; exact h) F1) (fun z => ih (by dsimp only at h; rw [if_neg z] at h; exact h) F1)
      | le => exact lv_if_le hx hb (okD_at hd 2 rfl) hok (fun z => ih (by dsimp only at h; rw [if_pos z] at h; exact h) F1) (fun z => ih (by dsimp only at h; rw [if_neg z] at h; exact h) F1)
    · cases h
  | if_icmp cd off =>
    simp only [step] at h
    simp only [okEB, decide_eq_true_eq] at hok
    split at h
    · have F1 := Frm_st F (tail_O (tail_O hOs))
      cases cd with
      | eq => exact lv_icmp_eq hx hb (okD_at hd 2 rfl) hok (fun z => ih (by dsimp only at h; rw [if_pos z] at h; exact h) F1) (fun z => ih (by dsimp only at h; rw [if_neg z] at h; exact h) F1)
      | ne => exact lv_icmp_ne hx hb (okD_at hd 2 rfl) hok (fun z => ih (by dsimp only at h; rw [if_neg z] at h; exact h) F1) (fun z => ih (by dsimp only at h; rw [if_pos z] at h; exact h) F1)
      | lt => exact lv_icmp_lt hx hb (okD_at hd 2 rfl) hok (fun z => ih (by dsimp only at h; rw [if_pos z] at h; exact h) F1) (fun z => ih (by dsimp only at h; rw [if_neg z] at h; exact h) F1)
      | ge => exact lv_icmp_ge hx hb (okD_at hd 2 rfl) hok (fun z => ih (by dsimp only at h; rw [if_pos z] at h; exact h) F1) (fun z => ih (by dsimp only at h; rw [if_neg z] at h; exact h) F1)
      | gt => exact lv_icmp_gt hx hb (okD_at hd 2 rfl) hok (fun z => ih (by dsimp only at h; rw [if_pos z] at h; exact h) F1) (fun z => ih (by dsimp only at h; rw [if_neg z] at h; exact h) F1)
      | le => exact lv_icmp_le hx hb (okD_at hd 2 rfl) hok (fun z => ih (by dsimp only at h; rw [if_pos z] at h; exact h) F1) (fun z => ih (by dsimp only at h; rw [if_neg z] at h; exact h) F1)
    · cases h
  | ifnonnull off =>
    simp only [step] at h
    simp only [okEB, decide_eq_true_eq] at hok
    split at h
    · exact lv_ifnonnull hx hb (okD_at hd 2 rfl) hok (ih h (Frm_st F (tail_O hOs)))
    · exact lv_ifnonnullN hx hb (okD_at hd 2 rfl) (ih h (Frm_st F (tail_O hOs)))
    · cases h
  | tableswitch dflt lo hi offs =>
    simp only [step] at h
    simp only [okEB, Bool.and_eq_true, decide_eq_true_eq] at hok
    obtain ⟨len', hdec, -⟩ := hd
    split at h
    · have F1 := Frm_st F (tail_O hOs)
      split at h
      · rename_i hz
        exact lv_tableOut hx hb hdec hz hok.1 (ih h F1)
      · rename_i hz
        split at h
        · rename_i off ho
          refine lv_tableIn hx hb hdec (fun q => hz (Or.inl q)) (fun q => hz (Or.inr q)) ho ?_ (ih h F1)
          have h1 := List.all_eq_true.mp hok.2 off (Array.mem_toList_iff.mpr (Array.mem_of_getElem? ho))
          rw [Int.toNat_of_nonneg (of_decide_eq_true h1)]
        · cases h
    · cases h
  | getstatic ix =>
    simp only [step] at h
    split at h
    · rename_i q hq
      simp only [okEB, hq] at hok
      exact va_gets hx hb (hEv.1 q (List.mem_of_getElem? hq)) hSs hown (hts _ (gW_TB hok rfl)) (fun _ h => h) (okD_at hd 2 rfl) (ih h (Frm_st F (cons_O (vO_int _ _) hOs)))
    · cases h
  | getfield ix =>
    simp only [step] at h
    repeat' split at h
    all_goals first
      | (cases h; done)
      | skip
    rename_i rr tt _ ci fs hAtr hci _ v hv
    subst hci
    simp only [okEB] at hok
    split at hok
    · rename_i C T N hcl2
      simp only [Bool.and_eq_true, decide_eq_true_eq] at hok
      have he := ws_obj (tc := tc) hk hAtr (vwCl_lt hcl2)
      have hO1 := hk.1 rr
      rw [hAtr] at hO1
      refine va_get (D := D) (cl := vwCl) (ref := C) (C := C) hx hb hts (cls_words _ _ _ _ hcl2).1 hown hK hP rr he hcl2 cc hok.1.1 (hts _ (gW_TB hok.2 rfl)) (fun x q => by rw [← hok.1.2]; exact q) (v := rn ad v) (by rw [List.getElem?_map, hv]; rfl) (okD_at hd 2 rfl) (ih h (Frm_st F (cons_O (hO1 v (List.mem_of_getElem? hv)) (tail_O hOs))))
    · cases hok
  | putfield ix =>
    simp only [step] at h
    repeat' split at h
    all_goals first
      | (cases h; done)
      | skip
    rename_i v rr tt _ ci fs hAtr hci
    obtain ⟨hci, hlt, hchk⟩ := hci
    subst hci
    simp only [okEB] at hok
    split at hok
    · rename_i C T N hcl2
      simp only [Bool.and_eq_true, decide_eq_true_eq] at hok
      obtain ⟨⟨⟨⟨o1, o2⟩, o3⟩, o4⟩, o5⟩ := hok
      split at o4
      · rename_i ty hty
        obtain ⟨ty0, c1, c2, -, -, -⟩ := cls_facts _ _ _ _ hcl2
        obtain ⟨z1, z2⟩ := chk_ok ad hchk o4
        have hlt2 := Gd_obj hk.2.1 hAtr (vwCl_lt hcl2)
        have he := ws_obj (tc := tc) hk hAtr (vwCl_lt hcl2)
        have hO1 := hk.1 rr
        rw [hAtr] at hO1
        have key : ∀ (H1 : Heap) (locs1 : List Loc), va_P D vwCl ((wsO tc ad hp).set rr (ad rr, .inr (ci, (fs.map (rn ad)).set cc (rn ad v)))) H1 → va_D (fun q => b0 ≤ q) ((wsO tc ad hp).set rr (ad rr, .inr (ci, (fs.map (rn ad)).set cc (rn ad v)))) → va_S (fun q => b0 ≤ q) s.heap H1 locs1 → W p l e R s m args below meth c H1 locs1 cells slots Q (F0 m (pc + 3) ls (tt.map (rn ad))) := by
          intro H1 locs1 hP1 hD1 hS1
          rw [← List.map_set] at hP1 hD1
          exact ih h (Frm_set F hlt2 (fun w hw => (List.mem_or_eq_of_mem_set hw).elim (hO1 w) (fun e => by rw [e]; exact hOs _ List.mem_cons_self)) (fun a z => by cases z) hP1 hD1 hS1 (tail_O (tail_O hOs)))
        cases hfin0 : (T cc).2.2.2 with
        | false => exact va_put (D := D) (cl := vwCl) (ref := C) (C := C) hx hb hts (cls_words _ _ _ _ hcl2).1 ty0 c1 c2 hown hK hP hDd hSs rr he hcl2 cc o1 (hts _ (gW_TB o3 rfl)) (fun x q => by rw [← o2]; exact q) hfin0 hty z1 z2 (by rw [List.length_map]; exact hlt) (okD_at hd 2 rfl) key
        | true =>
          rw [hfin0] at o5
          simp only [Bool.not_true, Bool.false_or, Bool.and_eq_true, decide_eq_true_eq] at o5
          exact va_putF (D := D) (cl := vwCl) (ref := C) (C := C) hx hb hts (cls_words _ _ _ _ hcl2).1 ty0 c1 c2 hown hK hP hDd hSs rr he hcl2 cc o1 (hts _ (gW_TB o3 rfl)) (fun x q => by rw [← o2]; exact q) hfin0 (hini o5.1) (by rw [o2]; exact o5.2) hty z1 z2 (by rw [List.length_map]; exact hlt) (okD_at hd 2 rfl) key
      · cases o4
    · cases hok
  | iaload =>
    simp only [step] at h
    repeat' split at h
    all_goals first
      | (cases h; done)
      | (rename_i hAtr hin
         exact va_iald (D := D) (cl := vwCl) hx hb hK hP _ 0 (ws_arr hk hAtr (by decide)) rfl (inB_vp hin) (okD_at hd 0 rfl) (ih h (Frm_st F (cons_O (vO_int _ _) (tail_O (tail_O hOs))))))
      | (rename_i hAtr hin
         obtain ⟨z1, z2, z3⟩ := Gd_scr hk.2.1 hk.2.2 hAtr
         subst z1; subst z2; subst z3
         have hsb : ad SCR = sb 0 := hk.2.1.2 0
         have e1 := hEv.2.1
         have e2 := hEv.2.2.2.2.2.1
         rw [← hsb] at e1 e2
         exact va_sld hx hb e1 (Nat.lt_of_lt_of_le e2 hEv.2.2.2.2.1) (Nat.not_le.mpr e2) hSs (inB_vp hin) (okD_at hd 0 rfl) (ih h (Frm_st F (cons_O (vO_int _ _) (tail_O (tail_O hOs))))))
  | laload =>
    simp only [step] at h
    repeat' split at h
    all_goals first
      | (cases h; done)
      | (rename_i hAtr hin
         exact va_lald (D := D) (cl := vwCl) hx hb hK hP _ 1 (ws_arl hk hAtr (by decide)) rfl (inB_vp hin) (okD_at hd 0 rfl) (ih h (Frm_st F (cons_O (vO_long _ _) (tail_O (tail_O hOs))))))
  | baload =>
    simp only [step] at h
    repeat' split at h
    all_goals first
      | (cases h; done)
      | (rename_i hAtr hin
         exact va_bald (D := D) (cl := vwCl) hx hb hK hP _ 2 (ws_arr hk hAtr (by decide)) rfl (inB_vp hin) (okD_at hd 0 rfl) (ih h (Frm_st F (cons_O (vO_int _ _) (tail_O (tail_O hOs))))))
      | (rename_i hAtr hin
         exact va_zald (D := D) (cl := vwCl) hx hb hK hP _ 3 (ws_arr hk hAtr (by decide)) rfl (inB_vp hin) (okD_at hd 0 rfl) (ih h (Frm_st F (cons_O (vO_int _ _) (tail_O (tail_O hOs))))))
  | aaload =>
    simp only [step] at h
    repeat' split at h
    all_goals first
      | (cases h; done)
      | skip
    rename_i jj rr tt _ n f hAtr hin
    have hO1 := hk.1 rr
    rw [hAtr] at hO1
    refine va_aldq (D := D) (cl := vwCl) hx hb hK hP rr 4 (ws_arq hk hAtr (by decide)) rfl (inB_vp hin) (okD_at hd 0 rfl) ?_
    rw [map_rf]
    refine ih h (Frm_st F (cons_O (fun q hq => ?_) (tail_O (tail_O hOs))))
    cases hfj : f jj.toNatClampNeg with
    | none => rw [hfj] at hq; cases hq
    | some q0 => rw [hfj] at hq; cases hq; exact hO1 _ _ hfj
  | iastore =>
    simp only [step] at h
    repeat' split at h
    all_goals first
      | (cases h; done)
      | (rename_i hAtr hin
         exact va_iast (D := D) (cl := vwCl) hx hb hK hP hDd hSs _ 0 (ws_arr hk hAtr (by decide)) rfl (inB_vp hin) (okD_at hd 0 rfl) (fun H1 locs1 hP1 hD1 hS1 => ih h (Frm_set F (Gd_arr hk.2.1 hAtr (by decide)) trivial (fun a z => by cases z) hP1 hD1 hS1 (tail_O (tail_O (tail_O hOs))))))
  | lastore =>
    simp only [step] at h
    repeat' split at h
    all_goals first
      | (cases h; done)
      | (rename_i hAtr hin
         exact va_last (D := D) (cl := vwCl) hx hb hK hP hDd hSs _ 1 (ws_arl hk hAtr (by decide)) rfl (inB_vp hin) (okD_at hd 0 rfl) (fun H1 locs1 hP1 hD1 hS1 => ih h (Frm_set F (Gd_arr hk.2.1 hAtr (by decide)) trivial (fun a z => by cases z) hP1 hD1 hS1 (tail_O (tail_O (tail_O hOs))))))
  | bastore =>
    simp only [step] at h
    repeat' split at h
    all_goals first
      | (cases h; done)
      | (rename_i hAtr hin
         exact va_bast (D := D) (cl := vwCl) hx hb hK hP hDd hSs _ 2 (ws_arr hk hAtr (by decide)) rfl (inB_vp hin) (okD_at hd 0 rfl) (fun H1 locs1 hP1 hD1 hS1 => ih h (Frm_set F (Gd_arr hk.2.1 hAtr (by decide)) trivial (fun a z => by cases z) hP1 hD1 hS1 (tail_O (tail_O (tail_O hOs))))))
      | (rename_i hAtr hin
         exact va_zast (D := D) (cl := vwCl) hx hb hK hP hDd hSs _ 3 (ws_arr hk hAtr (by decide)) rfl (inB_vp hin) (okD_at hd 0 rfl) (fun H1 locs1 hP1 hD1 hS1 => ih h (Frm_set F (Gd_arr hk.2.1 hAtr (by decide)) trivial (fun a z => by cases z) hP1 hD1 hS1 (tail_O (tail_O (tail_O hOs))))))
  | aastore =>
    simp only [step] at h
    repeat' split at h
    all_goals first
      | (cases h; done)
      | skip
    rename_i qq jj rr tt _ n f hAtr _ ci vs hAtq hin
    obtain ⟨hci, hin⟩ := hin
    subst hci
    have hO1 := hk.1 rr
    rw [hAtr] at hO1
    have key : ∀ (H1 : Heap) (locs1 : List Loc), va_P D vwCl ((wsO tc ad hp).set rr (ad rr, .inl (tc 4, n, .inr (.inr (.inr (.inr (va_up (fun j => (f j).map ad) jj.toNatClampNeg (some (ad qq))))))))) H1 → va_D (fun q => b0 ≤ q) ((wsO tc ad hp).set rr (ad rr, .inl (tc 4, n, .inr (.inr (.inr (.inr (va_up (fun j => (f j).map ad) jj.toNatClampNeg (some (ad qq))))))))) → va_S (fun q => b0 ≤ q) s.heap H1 locs1 → W p l e R s m args below meth c H1 locs1 cells slots Q (F0 m (pc + 1) ls (tt.map (rn ad))) := by
      intro H1 locs1 hP1 hD1 hS1
      have e1 : va_up (fun j => (f j).map ad) jj.toNatClampNeg (some (ad qq)) = (fun j => (va_up f jj.toNatClampNeg (some qq) j).map ad) := by
        funext j
        simp only [va_up]
        split <;> rfl
      rw [e1] at hP1 hD1
      refine ih h (Frm_set F (Gd_arr hk.2.1 hAtr (by decide)) ?_ (fun a z => by cases z) hP1 hD1 hS1 (tail_O (tail_O (tail_O hOs))))
      show ∀ j q, va_up f jj.toNatClampNeg (some qq) j = some q → q < hp.1 ∨ SCR ≤ q
      intro j q hq
      simp only [va_up] at hq
      split at hq
      · cases hq; exact hOs (.ref qq) List.mem_cons_self _ rfl
      · exact hO1 _ _ hq
    exact va_astq (D := D) (cl := vwCl) (r := (RX6, TX6, 15)) hx hb hK hP hDd hSs rr 4 qq 5 (ws_arq hk hAtr (by decide)) rfl (ws_obj hk hAtq (by decide)) rfl (inB_vp hin) (okD_at hd 0 rfl) key
  | arraylength =>
    simp only [step] at h
    repeat' split at h
    all_goals first
      | (cases h; done)
      | (rename_i hAtr
         exact va_alen (D := D) (cl := vwCl) hx hb hK hP _ 0 (ws_arr hk hAtr (by decide)) rfl rfl (okD_at hd 0 rfl) (ih h (Frm_st F (cons_O (vO_int _ _) (tail_O hOs)))))
      | (rename_i hAtr
         obtain ⟨z1, z2, z3⟩ := Gd_scr hk.2.1 hk.2.2 hAtr
         subst z1; subst z2; subst z3
         have hsb : ad SCR = sb 0 := hk.2.1.2 0
         have e1 := hEv.2.1
         have e2 := hEv.2.2.2.2.2.1
         rw [← hsb] at e1 e2
         exact va_slen hx hb e1 (Nat.lt_of_lt_of_le e2 hEv.2.2.2.2.1) (Nat.not_le.mpr e2) hSs (okD_at hd 0 rfl) (ih h (Frm_st F (cons_O (vO_int _ _) (tail_O hOs)))))
  | newarray at0 =>
    simp only [step] at h
    repeat' split at h
    all_goals first
      | (cases h; done)
      | skip
    · obtain ⟨hn1, hn2⟩ := ‹¬ (_ : Int32) < 0 ∧ _ ≤ 100000›
      have hmn := run_mono _ _ _ _ _ _ _ _ _ h
      obtain ⟨z1, z2, z3⟩ := hmn
      simp only [hC, hSl, hNew] at z1 z2 z3 hcc hss
      obtain ⟨z4, z5, z6⟩ := hB
      simp only [hC, hSl] at z4 z5 z6
      have hn3 : hp.1 < SCR := by simp only [SCR]; omega
      refine va_newa (D := D) (cl := vwCl) (atype := .int) (ty := .int) (N' := Int32.toNatClampNeg _) hx hb (hts _ tb_arr_int) rfl hK hP hDd hSs hA (a0 := (_, .inl (fun _ => 0))) (fun _ => rfl) hn1 rfl (Nat.le_trans (Nat.mul_le_mul_right _ hn2) (by decide)) (by omega) (by omega) (okD_at hd 1 rfl) (fun q cA H1 hK1 hP1 hD1 hS1 => ?_)
      have hcA : cA = tc 0 := by
        have q1 : s.vm.findClass _ = some cA := (hK1.2 5 (cA, .int) rfl).2
        have q2 : s.vm.findClass _ = some (tc 0) := (hK.2 0 (tc 0, .int) rfl).2
        rw [q1] at q2
        exact Option.some.inj q2
      subst hcA
      have hw : rn (adN ad hp.1 q) (.ref hp.1) = .ref q := by simp [rn, adN]
      have hrest := rn_tail (ad := ad) (q := q) (tail_O hOs) hn3
      have := ih h (Frm_new F hn3 trivial (fun a z => by cases z) hP1 hD1 hS1 (cons_O (fun q hq => by cases hq; exact Or.inl (Nat.lt_succ_self _)) (fun v hv => vO_mono (tail_O hOs v hv) (Nat.le_succ _))))
      rw [List.map_cons, hw, hrest] at this
      exact this
    · obtain ⟨hn1, hn2⟩ := ‹¬ (_ : Int32) < 0 ∧ _ ≤ 100000›
      have hmn := run_mono _ _ _ _ _ _ _ _ _ h
      obtain ⟨z1, z2, z3⟩ := hmn
      simp only [hC, hSl, hNew] at z1 z2 z3 hcc hss
      obtain ⟨z4, z5, z6⟩ := hB
      simp only [hC, hSl] at z4 z5 z6
      have hn3 : hp.1 < SCR := by simp only [SCR]; omega
      refine va_newa (D := D) (cl := vwCl) (atype := .long) (ty := .long) (N' := Int32.toNatClampNeg _) hx hb (hts _ tb_arr_long) rfl hK hP hDd hSs hA (a0 := (_, .inr (.inl (fun _ => 0)))) (fun _ => rfl) hn1 rfl (Nat.le_trans (Nat.mul_le_mul_right _ hn2) (by decide)) (by omega) (by omega) (okD_at hd 1 rfl) (fun q cA H1 hK1 hP1 hD1 hS1 => ?_)
      have hcA : cA = tc 1 := by
        have q1 : s.vm.findClass _ = some cA := (hK1.2 5 (cA, .long) rfl).2
        have q2 : s.vm.findClass _ = some (tc 1) := (hK.2 1 (tc 1, .long) rfl).2
        rw [q1] at q2
        exact Option.some.inj q2
      subst hcA
      have hw : rn (adN ad hp.1 q) (.ref hp.1) = .ref q := by simp [rn, adN]
      have hrest := rn_tail (ad := ad) (q := q) (tail_O hOs) hn3
      have := ih h (Frm_new F hn3 trivial (fun a z => by cases z) hP1 hD1 hS1 (cons_O (fun q hq => by cases hq; exact Or.inl (Nat.lt_succ_self _)) (fun v hv => vO_mono (tail_O hOs v hv) (Nat.le_succ _))))
      rw [List.map_cons, hw, hrest] at this
      exact this
    · obtain ⟨hn1, hn2⟩ := ‹¬ (_ : Int32) < 0 ∧ _ ≤ 100000›
      have hmn := run_mono _ _ _ _ _ _ _ _ _ h
      obtain ⟨z1, z2, z3⟩ := hmn
      simp only [hC, hSl, hNew] at z1 z2 z3 hcc hss
      obtain ⟨z4, z5, z6⟩ := hB
      simp only [hC, hSl] at z4 z5 z6
      have hn3 : hp.1 < SCR := by simp only [SCR]; omega
      refine va_newa (D := D) (cl := vwCl) (atype := .byte) (ty := .byte) (N' := Int32.toNatClampNeg _) hx hb (hts _ tb_arr_byte) rfl hK hP hDd hSs hA (a0 := (_, .inl (fun _ => 0))) (fun _ => rfl) hn1 rfl (Nat.le_trans (Nat.mul_le_mul_right _ hn2) (by decide)) (by omega) (by omega) (okD_at hd 1 rfl) (fun q cA H1 hK1 hP1 hD1 hS1 => ?_)
      have hcA : cA = tc 2 := by
        have q1 : s.vm.findClass _ = some cA := (hK1.2 5 (cA, .byte) rfl).2
        have q2 : s.vm.findClass _ = some (tc 2) := (hK.2 2 (tc 2, .byte) rfl).2
        rw [q1] at q2
        exact Option.some.inj q2
      subst hcA
      have hw : rn (adN ad hp.1 q) (.ref hp.1) = .ref q := by simp [rn, adN]
      have hrest := rn_tail (ad := ad) (q := q) (tail_O hOs) hn3
      have := ih h (Frm_new F hn3 trivial (fun a z => by cases z) hP1 hD1 hS1 (cons_O (fun q hq => by cases hq; exact Or.inl (Nat.lt_succ_self _)) (fun v hv => vO_mono (tail_O hOs v hv) (Nat.le_succ _))))
      rw [List.map_cons, hw, hrest] at this
      exact this
    · obtain ⟨hn1, hn2⟩ := ‹¬ (_ : Int32) < 0 ∧ _ ≤ 100000›
      have hmn := run_mono _ _ _ _ _ _ _ _ _ h
      obtain ⟨z1, z2, z3⟩ := hmn
      simp only [hC, hSl, hNew] at z1 z2 z3 hcc hss
      obtain ⟨z4, z5, z6⟩ := hB
      simp only [hC, hSl] at z4 z5 z6
      have hn3 : hp.1 < SCR := by simp only [SCR]; omega
      refine va_newa (D := D) (cl := vwCl) (atype := .boolean) (ty := .boolean) (N' := Int32.toNatClampNeg _) hx hb (hts _ tb_arr_boolean) rfl hK hP hDd hSs hA (a0 := (_, .inl (fun _ => 0))) (fun _ => rfl) hn1 rfl (Nat.le_trans (Nat.mul_le_mul_right _ hn2) (by decide)) (by omega) (by omega) (okD_at hd 1 rfl) (fun q cA H1 hK1 hP1 hD1 hS1 => ?_)
      have hcA : cA = tc 3 := by
        have q1 : s.vm.findClass _ = some cA := (hK1.2 5 (cA, .boolean) rfl).2
        have q2 : s.vm.findClass _ = some (tc 3) := (hK.2 3 (tc 3, .boolean) rfl).2
        rw [q1] at q2
        exact Option.some.inj q2
      subst hcA
      have hw : rn (adN ad hp.1 q) (.ref hp.1) = .ref q := by simp [rn, adN]
      have hrest := rn_tail (ad := ad) (q := q) (tail_O hOs) hn3
      have := ih h (Frm_new F hn3 trivial (fun a z => by cases z) hP1 hD1 hS1 (cons_O (fun q hq => by cases hq; exact Or.inl (Nat.lt_succ_self _)) (fun v hv => vO_mono (tail_O hOs v hv) (Nat.le_succ _))))
      rw [List.map_cons, hw, hrest] at this
      exact this
  | anewarray ix =>
    simp only [step] at h
    simp only [okEB] at hok
    repeat' split at h
    all_goals first
      | (cases h; done)
      | skip
    obtain ⟨hn1, hn2⟩ := ‹¬ (_ : Int32) < 0 ∧ _ ≤ 100000›
    have hmn := run_mono _ _ _ _ _ _ _ _ _ h
    obtain ⟨z1, z2, z3⟩ := hmn
    simp only [hC, hSl, hNew] at z1 z2 z3 hcc hss
    obtain ⟨z4, z5, z6⟩ := hB
    simp only [hC, hSl] at z4 z5 z6
    have hn3 : hp.1 < SCR := by simp only [SCR]; omega
    refine va_newq (D := D) (cl := vwCl) hx hb hown (hts _ (gW_TB hok rfl)) hNw.2.1 hK hP hDd hSs hA hn1 rfl (Nat.le_trans (Nat.mul_le_mul_right _ hn2) (by decide)) (by omega) (by omega) (okD_at hd 2 rfl) (fun q cA H1 hK1 hP1 hD1 hS1 => ?_)
    have hcA : cA = tc 4 := by
      obtain ⟨-, -, -, -, -, q1⟩ := (hK1.2 5 (cA, .object "BlendYard$State") rfl).2
      obtain ⟨-, -, -, -, -, q2⟩ := (hK.2 4 (tc 4, .object "BlendYard$State") rfl).2
      rw [q1] at q2
      exact Option.some.inj q2
    subst hcA
    have hw : rn (adN ad hp.1 q) (.ref hp.1) = .ref q := by simp [rn, adN]
    have hrest := rn_tail (ad := ad) (q := q) (tail_O hOs) hn3
    have := ih h (Frm_new F hn3 (fun j q hq => by cases hq) (fun a z => by cases z) hP1 hD1 hS1 (cons_O (fun q hq => by cases hq; exact Or.inl (Nat.lt_succ_self _)) (fun v hv => vO_mono (tail_O hOs v hv) (Nat.le_succ _))))
    rw [List.map_cons, hw, hrest] at this
    exact this
  | new ix =>
    simp only [step] at h
    split at h
    · simp only [okEB] at hok
      split at hok
      · rename_i C T N hcl2
        simp only [Bool.and_eq_true, decide_eq_true_eq] at hok
        obtain ⟨rfl, o2⟩ := hok
        obtain ⟨ty0, c1, c2, c3, c4, c5⟩ := cls_facts _ _ _ _ hcl2
        obtain ⟨w1, w2, w3⟩ := cls_words _ _ _ _ hcl2
        have hmn := run_mono _ _ _ _ _ _ _ _ _ h
        obtain ⟨z1, z2, z3⟩ := hmn
        simp only [hC, hSl, hNew] at z1 z2 z3 hcc hss
        obtain ⟨z4, z5, z6⟩ := hB
        simp only [hC, hSl] at z4 z5 z6
        have hn3 : hp.1 < SCR := by simp only [SCR]; omega
        refine va_new (D := D) (cl := vwCl) hx hb hts w1 ty0 c1 hown (hts _ (gW_TB o2 rfl)) (hts _ w2) (hts _ w3) hK hP hDd hSs hA hcl2 c3 (by omega) (by omega) (okD_at hd 2 rfl) (fun q H1 hP1 hD1 hS1 => ?_)
        have hw : rn (adN ad hp.1 q) (.ref hp.1) = .ref q := by simp [rn, adN]
        have hrest := rn_tail (ad := ad) (q := q) hOs hn3
        have e1 : rE tc ad (.inr (b, (CI b).1)) = .inr (b, (CI b).1) := by simp only [rE, norefs_map c5]
        rw [← e1] at hP1 hD1
        have := ih h (Frm_new F hn3 (fun v hv => norefs_O c5 v hv) (fun a z => by cases z) hP1 hD1 hS1 (cons_O (fun q hq => by cases hq; exact Or.inl (Nat.lt_succ_self _)) (fun v hv => vO_mono (hOs v hv) (Nat.le_succ _))))
        rw [List.map_cons, hw, hrest] at this
        exact this
      · cases hok
    · split at h
      · rename_i hcs
        cases h
        exact hfin _ _ _ _ _ _ _ _ _ _ F ⟨rfl, hcs, _, _, _, _, _, hf⟩
      · cases h
    · cases h
  | ireturn =>
    simp only [step] at h
    repeat' split at h
    all_goals first
      | (cases h; done)
      | skip
    cases h
    exact hfin _ _ _ _ _ _ _ _ _ _ F ⟨rfl, ‹rvOK _ _ = true›, rfl, okD_at hd 0 rfl⟩
  | lreturn =>
    simp only [step] at h
    repeat' split at h
    all_goals first
      | (cases h; done)
      | skip
    cases h
    exact hfin _ _ _ _ _ _ _ _ _ _ F ⟨rfl, ‹rvOK _ _ = true›, rfl, okD_at hd 0 rfl⟩
  | return_ =>
    simp only [step] at h
    repeat' split at h
    all_goals first
      | (cases h; done)
      | skip
    cases h
    exact hfin _ _ _ _ _ _ _ _ _ _ F ⟨rfl, ‹rvOK _ _ = true›, rfl, okD_at hd 0 rfl⟩
  | invokespecial ix =>
    simp only [step] at h
    repeat' split at h
    all_goals first
      | (cases h; done)
      | skip
    · have hcs := ‹cs _ ≤ 8›
      simp only [okEB] at hok
      exact W.objInit (g := F0 m pc ls _) hx hb hown (hts _ (gW_TB hok rfl)) (hts _ tb_oi_i) (hts _ tb_oi_c) rfl hsz.symm rfl (okD_at hd 2 rfl) (by omega) (oi_room hcs hR.2) (ih h (Frm_st F (tail_O hOs)))
    · have hcs := ‹cs _ ≤ 8›
      have hlen := ‹cc ≤ List.length _›
      have hdrop := ‹List.drop cc _ = _›
      have hrun := ‹run n _ b 0 _ [] hp = some (some _, _)›
      simp only [okEB, Bool.and_eq_true, decide_eq_true_eq] at hok
      obtain ⟨⟨⟨⟨⟨o1, o2⟩, o3⟩, o4⟩, o5⟩, o6⟩ := hok
      have hle1 := run_mono _ _ _ _ _ _ _ _ _ hrun
      have hle2 := run_mono _ _ _ _ _ _ _ _ _ h
      have hdO := drop_O hOs cc
      rw [hdrop] at hdO
      have hmet := hcl n (Nat.lt_succ_self n) _ _ _ _ _ _ ad o3 ‹Nat.ble _ _ = true› hrun (Nat.le_trans hle2.2.1 hB.1) (cons_O (hdO _ List.mem_cons_self) (take_O hOs cc))
      exact sim_I C (hM b o3) F hlen hdrop hcs (gW_TB o1 rfl) o2 o4 o5 o6 hd hmet (by omega) (by obtain ⟨_, y1, y2⟩ := hle1; obtain ⟨_, y3, y4⟩ := hle2; omega) (fun ad' t2 locs1 q1 q2 q3 q4 => back (tail_O hdO) h hle1 q1 q2 q3 q4)
    · have hcs := ‹cs _ ≤ 8›
      have hlen := ‹cc ≤ List.length _›
      have hdrop := ‹List.drop cc _ = _›
      have hrun := ‹run n _ b 0 _ [] hp = some (some _, _)›
      simp only [okEB, Bool.and_eq_true, decide_eq_true_eq] at hok
      obtain ⟨⟨⟨⟨⟨o1, o2⟩, o3⟩, o4⟩, o5⟩, o6⟩ := hok
      have hle1 := run_mono _ _ _ _ _ _ _ _ _ hrun
      have hle2 := run_mono _ _ _ _ _ _ _ _ _ h
      have hdO := drop_O hOs cc
      rw [hdrop] at hdO
      have hmet := hcl n (Nat.lt_succ_self n) _ _ _ _ _ _ ad o3 ‹Nat.ble _ _ = true› hrun (Nat.le_trans hle2.2.1 hB.1) (cons_O (hdO _ List.mem_cons_self) (take_O hOs cc))
      exact sim_N C (hM b o3) F hlen hdrop hcs (gW_in o1) o2 o4 o5 o6 hd hmet (by omega) (by obtain ⟨_, y1, y2⟩ := hle1; obtain ⟨_, y3, y4⟩ := hle2; omega) (fun ad' t2 locs1 q1 q2 q3 q4 => back (tail_O hdO) h hle1 q1 q2 q3 q4)
  | invokevirtual ix =>
    simp only [step] at h
    split at h
    · repeat' split at h
      all_goals first
        | (cases h; done)
        | skip
      obtain ⟨hci, hcs⟩ := ‹_ = MCi b ∧ cs _ ≤ 8›
      subst hci
      have hlen := ‹cc ≤ List.length _›
      have hdrop := ‹List.drop cc _ = _›
      have hrun := ‹run n _ b 0 _ [] hp = some (some _, _)›
      simp only [okEB, Bool.and_eq_true, decide_eq_true_eq] at hok
      obtain ⟨⟨⟨⟨o1, o2⟩, o3⟩, o4⟩, o5⟩ := hok
      have hle1 := run_mono _ _ _ _ _ _ _ _ _ hrun
      have hle2 := run_mono _ _ _ _ _ _ _ _ _ h
      have hdO := drop_O hOs cc
      rw [hdrop] at hdO
      have hmet := hcl n (Nat.lt_succ_self n) _ _ _ _ _ _ ad o3 ‹Nat.ble _ _ = true› hrun (Nat.le_trans hle2.2.1 hB.1) (cons_O (hdO _ List.mem_cons_self) (take_O hOs cc))
      exact sim_V C (hM b o3) F hlen hdrop hcs ‹hAt hp _ = Sum.inr _› (gW_TB o1 rfl) o2 o4 o5 hd hmet (by omega) (by obtain ⟨_, y1, y2⟩ := hle1; obtain ⟨_, y3, y4⟩ := hle2; omega) (fun ad' t2 locs1 q1 q2 q3 q4 => back (tail_O hdO) h hle1 q1 q2 q3 q4)
    · split at h
      · split at h
        · rename_i hq
          simp only [okEB] at hok
          exact rule17 C F hq.1 hq.2 (gW_TB hok rfl) hd (by omega) hbc (fun L' hL => ih h (Frm_L F hL (cons_O (vO_int _ _) (tail_O hOs))))
        · cases h
      · cases h
    · split at h
      · split at h
        · rename_i hq
          simp only [okEB] at hok
          exact rule18 C F hq.1.1 hq.1.2 hq.2 (gW_TB hok rfl) hd (by omega) hbc (fun L' hL => ih h (Frm_L F hL (cons_O (vO_int _ _) (tail_O (tail_O hOs)))))
        · cases h
      · cases h
    · cases h
  | invokestatic ix =>
    simp only [step] at h
    split at h
    · repeat' split at h
      all_goals first
        | (cases h; done)
        | skip
      obtain ⟨hlen, hcs⟩ := ‹cc ≤ List.length _ ∧ cs _ ≤ 8›
      have hrun := ‹run n _ b 0 _ [] hp = some (some _, _)›
      simp only [okEB, Bool.and_eq_true, decide_eq_true_eq] at hok
      obtain ⟨⟨⟨o1, o2⟩, o3⟩, o4⟩ := hok
      have hle1 := run_mono _ _ _ _ _ _ _ _ _ hrun
      have hle2 := run_mono _ _ _ _ _ _ _ _ _ h
      have hmet := hcl n (Nat.lt_succ_self n) _ _ _ _ _ _ ad o3 ‹Nat.ble _ _ = true› hrun (Nat.le_trans hle2.2.1 hB.1) (take_O hOs cc)
      exact sim_S C (hM b o3) F hlen hcs (gW_TB o1 rfl) o2 o4 hd hmet (by omega) (by obtain ⟨_, y1, y2⟩ := hle1; obtain ⟨_, y3, y4⟩ := hle2; omega) (fun ad' t2 locs1 q1 q2 q3 q4 => back (drop_O hOs cc) h hle1 q1 q2 q3 q4)
    · split at h
      · split at h
        · have hcs := ‹cs _ ≤ 8›
          simp only [okEB] at hok
          exact va_mmax hx hb hsz hown (hts _ (gW_TB hok rfl)) (hts _ tb_s10) (hts _ tb_imath) (hts _ tb_c10) (by omega) (by rw [rn_cs]; omega) hbc.1 hbc.2 (okD_at hd 2 rfl) (ih h (Frm_st F (cons_O (vO_int _ _) (tail_O (tail_O hOs)))))
        · cases h
      · cases h
    · split at h
      · split at h
        · have hcs := ‹cs _ ≤ 8›
          simp only [okEB] at hok
          exact va_mmin hx hb hsz hown (hts _ (gW_TB hok rfl)) (hts _ tb_s11) (hts _ tb_imath) (hts _ tb_c11) (by omega) (by rw [rn_cs]; omega) hbc.1 hbc.2 (okD_at hd 2 rfl) (ih h (Frm_st F (cons_O (vO_int _ _) (tail_O (tail_O hOs)))))
        · cases h
      · cases h
    · split at h
      · split at h
        · have hcs := ‹cs _ ≤ 8›
          simp only [okEB] at hok
          exact va_mabs hx hb hsz hown (hts _ (gW_TB hok rfl)) (hts _ tb_s12) (hts _ tb_imath) (hts _ tb_c12) (by omega) (by rw [rn_cs]; omega) hbc.1 hbc.2 (okD_at hd 2 rfl) (ih h (Frm_st F (cons_O (vO_int _ _) (tail_O hOs))))
        · cases h
      · cases h
    · split at h
      · split at h
        · have hcs := ‹cs _ ≤ 8›
          simp only [okEB] at hok
          exact va_mabs_long hx hb hsz hown (hts _ (gW_TB hok rfl)) (hts _ tb_s13) (hts _ tb_imath) (hts _ tb_c13) (by omega) (by rw [rn_cs]; omega) hbc.1 hbc.2 (okD_at hd 2 rfl) (ih h (Frm_st F (cons_O (vO_long _ _) (tail_O hOs))))
        · cases h
      · cases h
    · split at h
      · split at h
        · have hcs := ‹cs _ ≤ 8›
          simp only [okEB] at hok
          exact va_mmax_long hx hb hsz hown (hts _ (gW_TB hok rfl)) (hts _ tb_s14) (hts _ tb_imath) (hts _ tb_c14) (by omega) (by rw [rn_cs]; omega) hbc.1 hbc.2 (okD_at hd 2 rfl) (ih h (Frm_st F (cons_O (vO_long _ _) (tail_O (tail_O hOs)))))
        · cases h
      · cases h
    · repeat' split at h
      all_goals first
        | (cases h; done)
        | skip
      rename_i n1 dp r1 sp r0 t _ n0' f hA0 _ n1' g hA1 hcond
      obtain ⟨hcs, c1, c2, c3, c4, c5⟩ := hcond
      simp only [okEB] at hok
      exact va_copyi (D := D) (cl := vwCl) hx hb hsz hown (hts _ (gW_TB hok rfl)) (hts _ tb_n15) (hts _ tb_s15) (hts _ tb_i15) hK hP hDd hSs r0 r1 0 0 (ws_arr hk hA0 (by decide)) (ws_arr hk hA1 (by decide)) rfl rfl rfl c1 c2 c3 c4 c5 (fun _ _ => rfl) (by omega) (by rw [rn_cs, show nativeFrameWords "java/lang/System" "arraycopy" 5 = 7 by decide +kernel]; omega) (okD_at hd 2 rfl) (fun H1 locs1 hP1 hD1 hS1 => ih h (Frm_set F (Gd_arr hk.2.1 hA1 (by decide)) trivial (fun a z => by cases z) hP1 hD1 hS1 (tail_O (tail_O (tail_O (tail_O (tail_O hOs)))))))
    · repeat' split at h
      all_goals first
        | (cases h; done)
        | skip
      · simp only [okEB, decide_eq_true_eq] at hok
        have hcs := ‹cs _ ≤ 8›
        have hAx := ‹hAt hp _ = Sum.inr (7, _)›
        have hrun := ‹run n _ b 0 _ [] hp = some (some _, _)›
        have hAo := ‹hAt _ _ = Sum.inl (1, _, _)›
        have hle2 := run_mono _ _ _ _ _ _ _ _ _ h
        refine h19 hok n pc ix len a b cc _ _ _ _ _ _ _ _ _ _ _ ad H locs cells slots ls rfl (fun n' hn => hcl n' (by omega)) hf hd hcs hAx ‹Nat.ble _ _ = true› hrun (hLe_tr (hLe_set _ _ _) hle2) F 0 _ ⟨_, _, hAo, ‹inB 0 _ = true›, rfl, rfl⟩ (fun ad' H1 locs1 cells1 slots1 F1 => ?_)
        exact ih h F1
      · simp only [okEB, decide_eq_true_eq] at hok
        have hcs := ‹cs _ ≤ 8›
        have hAx := ‹hAt hp _ = Sum.inr (7, _)›
        have hrun := ‹run n _ b 0 _ [] hp = some (none, _)›
        have hle2 := run_mono _ _ _ _ _ _ _ _ _ h
        refine h19 hok n pc ix len a b cc _ _ _ _ _ _ _ _ _ _ _ ad H locs cells slots ls rfl (fun n' hn => hcl n' (by omega)) hf hd hcs hAx ‹Nat.ble _ _ = true› hrun hle2 F 1 _ ⟨rfl, rfl⟩ (fun ad' H1 locs1 cells1 slots1 F1 => ?_)
        exact ih h F1
    · cases h
  | _ => simp [step] at h
end SIM
