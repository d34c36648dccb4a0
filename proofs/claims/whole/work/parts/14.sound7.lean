def mj_gw : Prop := Cond.native arraycopyName ∈ mj_WSG ∧ Cond.static arraycopyName ∈ mj_WSG ∧ Cond.initialized "java/lang/System" ∈ mj_WSG ∧ nativeFrameWords "java/lang/System" "arraycopy" 5 + 11 + 8 ≤ 64 ∧ Cond.instanceMethod Lib.objectInit ∈ mj_WSG ∧ Cond.code Lib.objectInit ⟨#[0xb1]⟩ 1 none ∈ mj_WSG ∧ Cond.arrayClass .int ∈ mj_WSG ∧ Cond.arrayClass .long ∈ mj_WSG ∧ Cond.arrayClass .byte ∈ mj_WSG
theorem mj_nbool {x : Int32} (h : x = 0 ∨ x = 1) : narrow .boolean (.int x) = .int x ∧ fits .boolean (.int x) = true := by
  rcases h with rfl | rfl <;> exact ⟨by decide, by decide⟩
section MJX
variable {p : Program} {l : Launch} {e : Env} {R : Room} {s : State} {m : MethodId} {args : Array Value} {below : List Frame} {meth : Method} {c : Code} {Q : State → Prop} {G : mj_G} {E : mj_E} {own nm : String} {cc : ByteArray} {nL d : Nat} {h0 : mj_H}
variable {pc : Nat} {ls st : List Value} {h : mj_H} {P : Nat → mj_Me} {C : Nat → List Value → mj_H → mj_R} {K : mj_K} {J : Nat → mj_K} {r : Option Value × mj_H} {rt : Option FieldType}
/-- the ends of a body -/
def mj_RT (p : Program) (l : Launch) (e : Env) (R : Room) (s : State) (m : MethodId) (args : Array Value) (below : List Frame) (meth : Method) (c : Code) (Q : State → Prop) (G : mj_G) (cc : ByteArray) (rt : Option FieldType) (h0 : mj_H) (r : Option Value × mj_H) : Prop :=
  ∀ (pc : Nat) (H : Heap) (LS : Array Slot) (locs : List Loc), va_P (mj_D G) vwCl (mj_ws G r.2) H → va_S (mj_A G) s.heap H locs →
    (∀ (x : Int32) (ty : FieldType), r.1 = some (.int x) → decode cc pc = .ok (.ireturn, 1) → rt = some ty → narrow ty (.int x) = .int x → W p l e R s m args below meth c H locs (mj_mc h0 r.2) (mj_ms h0 r.2) Q (F0 m pc LS [.int x])) ∧
    (∀ x : Int64, r.1 = some (.long x) → decode cc pc = .ok (.lreturn, 1) → rt = some .long → W p l e R s m args below meth c H locs (mj_mc h0 r.2) (mj_ms h0 r.2) Q (F0 m pc LS [.long x])) ∧
    (∀ (x : Nat) (ty : FieldType), r.1 = some (.ref x) → decode cc pc = .ok (.areturn, 1) → rt = some ty → ((∃ n, ty = .object n) ∨ ∃ t, ty = .array t) → W p l e R s m args below meth c H locs (mj_mc h0 r.2) (mj_ms h0 r.2) Q (F0 m pc LS [.ref (G.1 + x)])) ∧
    (r.1 = none → decode cc pc = .ok (.return_, 1) → rt = none → W p l e R s m args below meth c H locs (mj_mc h0 r.2) (mj_ms h0 r.2) Q (F0 m pc LS []))
/-- what a body knows of its callees -/
def mj_CC (l : Launch) (P : Nat → mj_Me) (E : mj_E) (G : mj_G) (d : Nat) (C : Nat → List Value → mj_H → mj_R) : Prop :=
  ∀ (mn : Nat) (as : List Value) (h : mj_H) (v : Option Value) (h' : mj_H), C mn as h = some (v, h') → mj_pf h h' ∧ (P mn).2.2.1 ≤ 45 ∧ ∃ d', d = d' + 1 ∧ mj_Ct l P E G mn d' as h v h'
theorem mj_sback {rt q ls rest} (hx : mj_back rt q ls rest K = some r) : ∃ v h', q = some (v, h') ∧ mj_back rt (some (v, h')) ls rest K = some r := by
  cases q with
  | none =>
    unfold mj_back at hx
    split at hx <;> cases hx
  | some z => obtain ⟨v, h'⟩ := z; exact ⟨v, h', rfl, hx⟩
theorem mj_sfit {h' : mj_H} (a : mj_pf h0 h') (b : mj_pf h' r.2) (hfit : mj_mc h0 r.2 ≤ R.cells ∧ mj_ms h0 r.2 ≤ R.slots) : mj_mc h0 h' ≤ R.cells ∧ mj_ms h0 h' ≤ R.slots := by
  obtain ⟨c1, c2⟩ := mj_counts a b
  omega
theorem mj_scall (hcl : mj_clok) (hgw : mj_gw) (X : mj_Cx p R s m args c G E own cc nL d h0) {len : Nat} {cst : Int32} {ax : List Nat} (hpf : mj_pf h0 h) (hfit : mj_mc h0 r.2 ≤ R.cells ∧ mj_ms h0 r.2 ≤ R.slots) (hCC : mj_CC l P E G d C) (hnm : nm = "<init>" → meth.name = "<init>") (hKp : ∀ ls' st' h', K ls' st' h' = some r → mj_pf h' r.2) (hRT : mj_RT p l e R s m args below meth c Q G cc rt h0 r)
    (hK : ∀ ls' st' h', K ls' st' h' = some r → mj_WW p l e R s m args below meth c Q G nL h0 (pc + len) ls' st' h') (hJ : ∀ pc' ls' st' h', J pc' ls' st' h' = some r → mj_WW p l e R s m args below meth c Q G nL h0 pc' ls' st' h') {iv idx : Nat} {i : Instr} (hi : (iv = 0 ∧ i = .invokevirtual idx) ∨ (iv = 1 ∧ i = .invokestatic idx) ∨ (iv = 2 ∧ i = .invokespecial idx)) (hdec : decode cc pc = .ok (i, 3)) (hlen : len = 3) (hck : mj_cki P own idx iv ax = true) (hx : mj_call C ax ls st h K = some r) : mj_WW p l e R s m args below meth c Q G nL h0 pc ls st h := by
  subst hlen
  unfold mj_call at hx
  simp only [mj_g_if] at hx
  split at hx
  -- Object's own beginning
  · split at hx
    · split at hx
      · rename_i hcat
        rcases hi with ⟨rfl, rfl⟩ | ⟨rfl, rfl⟩ | ⟨rfl, rfl⟩
        · simp [mj_cki] at hck
        · simp [mj_cki] at hck
        · simp only [mj_cki] at hck
          exact mj_r_obj X hdec (mj_wd_in hck) hgw.2.2.2.2.1 hgw.2.2.2.2.2.1 hcat (hK _ _ _ hx)
      · cases hx
    · cases hx
  -- arraycopy
  · rcases hi with ⟨rfl, rfl⟩ | ⟨rfl, rfl⟩ | ⟨rfl, rfl⟩
    · simp [mj_cki] at hck
    · simp only [mj_cki] at hck
      unfold mj_copy at hx
      simp only [mj_g_if] at hx
      split at hx
      · split at hx
        · rename_i hk
          split at hx
          · rename_i hr
            exact mj_r_copy X hgw.1 hgw.2.1 hgw.2.2.1 hgw.2.2.2.1 hdec (mj_wd_in hck) hk.1 hk.2.1 hk.2.2 hr.1 hr.2.1 hr.2.2.1 hr.2.2.2.1 hr.2.2.2.2 (hK _ _ _ hx)
          · cases hx
        · cases hx
      · cases hx
    · simp [mj_cki] at hck
  -- a static method
  · rename_i mn b1 n rt' tl
    split at hx
    · rename_i hn
      rcases hi with ⟨rfl, rfl⟩ | ⟨rfl, rfl⟩ | ⟨rfl, rfl⟩
      · simp [mj_cki] at hck
      · match tl, hck with
        | [p1, p2, p3, p4], hck =>
          simp only [mj_cki, Bool.and_eq_true] at hck
          obtain ⟨v, h', hq, hb⟩ := mj_sback hx
          obtain ⟨hp, hmx, d', rfl, hM⟩ := hCC _ _ _ _ _ hq
          have hp2 : mj_pf h' r.2 := mj_pfback (q := some (v, h')) (h := h') hKp (fun _ _ z => by cases z; exact mj_pf.rf) hb
          exact mj_r_static X hdec (mj_wd_in hck.1) (mj_wd_in hck.2.1) (mj_wd_in hck.2.2.1) (mj_wd_in hck.2.2.2.1) hck.2.2.2.2.1 hck.2.2.2.2.2 hmx hn.1 hn.2 hpf hp (mj_sfit (hpf.tr hp) hp2 hfit) hM hb hK
      · simp [mj_cki] at hck
    · cases hx
  -- a static method of a nest mate
  · rename_i mn b1 n rt' tl
    split at hx
    · rename_i hn
      rcases hi with ⟨rfl, rfl⟩ | ⟨rfl, rfl⟩ | ⟨rfl, rfl⟩
      · simp [mj_cki] at hck
      · match tl, hck with
        | [p1, p2, p3, p4], hck =>
          simp only [mj_cki, Bool.and_eq_true] at hck
          obtain ⟨v, h', hq, hb⟩ := mj_sback hx
          obtain ⟨hp, hmx, d', rfl, hM⟩ := hCC _ _ _ _ _ hq
          have hp2 : mj_pf h' r.2 := mj_pfback (q := some (v, h')) (h := h') hKp (fun _ _ z => by cases z; exact mj_pf.rf) hb
          exact mj_r_staticN X hdec (mj_wn_in hck.1).1 (mj_wd_in hck.2.1) (mj_wd_in hck.2.2.1) (mj_wd_in hck.2.2.2.1) hck.2.2.2.2.1 hck.2.2.2.2.2 hmx hn.1 hn.2 hpf hp (mj_sfit (hpf.tr hp) hp2 hfit) hM hb hK
      · simp [mj_cki] at hck
    · cases hx
  -- an object's method
  · rename_i mn ci n rt' tl
    split at hx
    · rename_i a rr hdr
      split at hx
      · rename_i hkd
        rcases hi with ⟨rfl, rfl⟩ | ⟨rfl, rfl⟩ | ⟨rfl, rfl⟩
        · match tl, hck with
          | [p1, p2, p3, p4, p5], hck =>
            simp only [mj_cki, Bool.and_eq_true, decide_eq_true_eq] at hck
            obtain ⟨v, h', hq, hb⟩ := mj_sback hx
            obtain ⟨hp, hmx, d', rfl, hM⟩ := hCC _ _ _ _ _ hq
            have hp2 : mj_pf h' r.2 := mj_pfback (q := some (v, h')) (h := h') hKp (fun _ _ z => by cases z; exact mj_pf.rf) hb
            exact mj_r_virtual X hdec (mj_wd_in hck.1) (mj_wd_in hck.2.1) (mj_wd_in hck.2.2.1) (mj_wd_in hck.2.2.2.1) (mj_wd_in hck.2.2.2.2.1) hck.2.2.2.2.2.1 hck.2.2.2.2.2.2.1 hck.2.2.2.2.2.2.2 hmx hdr hkd.1 hkd.2 hpf hp (mj_sfit (hpf.tr hp) hp2 hfit) hM hb hK
        · simp [mj_cki] at hck
        · simp [mj_cki] at hck
      · cases hx
    · cases hx
  -- a constructor
  · rename_i mn ci n tl
    split at hx
    · rename_i a rr hdr
      split at hx
      · rename_i hkd
        rcases hi with ⟨rfl, rfl⟩ | ⟨rfl, rfl⟩ | ⟨rfl, rfl⟩
        · simp [mj_cki] at hck
        · simp [mj_cki] at hck
        · match tl, hck with
          | [rt', p1, p2, p3, p4], hck =>
            simp only [mj_cki, Bool.and_eq_true, decide_eq_true_eq] at hck
            obtain ⟨v, h', hq, hb⟩ := mj_sback hx
            obtain ⟨hp, hmx, d', rfl, hM⟩ := hCC _ _ _ _ _ hq
            have hp2 : mj_pf h' r.2 := mj_pfback (q := some (v, h')) (h := h') hKp (fun _ _ z => by cases z; exact mj_pf.rf) hb
            exact mj_r_init (nest := false) X hdec (Or.inl ⟨rfl, mj_wd_in hck.1⟩) (mj_wd_in hck.2.1) (mj_wd_in hck.2.2.1) (mj_wd_in hck.2.2.2.1) hck.2.2.2.2.2.2.1 hck.2.2.2.2.2.2.2 hck.2.2.2.2.1 hck.2.2.2.2.2.1 hmx hdr hkd.2 hpf hp (mj_sfit (hpf.tr hp) hp2 hfit) hM hb hK
      · cases hx
    · cases hx
  -- a constructor of a nest mate
  · rename_i mn ci n tl
    split at hx
    · rename_i a rr hdr
      split at hx
      · rename_i hkd
        rcases hi with ⟨rfl, rfl⟩ | ⟨rfl, rfl⟩ | ⟨rfl, rfl⟩
        · simp [mj_cki] at hck
        · simp [mj_cki] at hck
        · match tl, hck with
          | [rt', p1, p2, p3, p4], hck =>
            simp only [mj_cki, Bool.and_eq_true, decide_eq_true_eq] at hck
            obtain ⟨v, h', hq, hb⟩ := mj_sback hx
            obtain ⟨hp, hmx, d', rfl, hM⟩ := hCC _ _ _ _ _ hq
            have hp2 : mj_pf h' r.2 := mj_pfback (q := some (v, h')) (h := h') hKp (fun _ _ z => by cases z; exact mj_pf.rf) hb
            exact mj_r_init (nest := true) X hdec (Or.inr ⟨rfl, (mj_wn_in hck.1).1⟩) (mj_wd_in hck.2.1) (mj_wd_in hck.2.2.1) (mj_wd_in hck.2.2.2.1) hck.2.2.2.2.2.2.1 hck.2.2.2.2.2.2.2 hck.2.2.2.2.1 hck.2.2.2.2.2.1 hmx hdr hkd.2 hpf hp (mj_sfit (hpf.tr hp) hp2 hfit) hM hb hK
      · cases hx
    · cases hx
  -- a method of a text
  · rename_i mn ci n rt' tl
    split at hx
    · rename_i j rr hdr
      split at hx
      · rename_i hkd
        rcases hi with ⟨rfl, rfl⟩ | ⟨rfl, rfl⟩ | ⟨rfl, rfl⟩
        · match tl, hck with
          | [p1, p2, p3, p4, p5], hck =>
            simp only [mj_cki, Bool.and_eq_true, decide_eq_true_eq] at hck
            obtain ⟨v, h', hq, hb⟩ := mj_sback hx
            obtain ⟨hp, hmx, d', rfl, hM⟩ := hCC _ _ _ _ _ hq
            have hp2 : mj_pf h' r.2 := mj_pfback (q := some (v, h')) (h := h') hKp (fun _ _ z => by cases z; exact mj_pf.rf) hb
            exact mj_r_virtualS X hdec (mj_wd_in hck.1) (mj_wd_in hck.2.1) (mj_wd_in hck.2.2.1) (mj_wd_in hck.2.2.2.1) (mj_wd_in hck.2.2.2.2.1) hck.2.2.2.2.2.1 hck.2.2.2.2.2.2.1 hck.2.2.2.2.2.2.2 hmx hdr hkd.1.1 hkd.1.2 hkd.2 hpf hp (mj_sfit (hpf.tr hp) hp2 hfit) hM hb hK
        · simp [mj_cki] at hck
        · simp [mj_cki] at hck
      · cases hx
    · cases hx
  · cases hx
end MJX
