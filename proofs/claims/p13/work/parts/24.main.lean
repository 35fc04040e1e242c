/-! THE SIMULATION -/
theorem hm_e {d1 : List Nat} {ads0 ads ads' : List Nat} (h : ∃ l, ads = ads0 ++ l) (h2 : ∃ l, ads' = ads ++ l) : ∃ l, ads' = ads0 ++ l := by
  obtain ⟨a, rfl⟩ := h
  obtain ⟨b, rfl⟩ := h2
  exact ⟨a ++ b, by rw [List.append_assoc]⟩
/-- what a run of n steps at most is owed: from any place of an activation -/
def Sim (n : Nat) : Prop := ∀ (d M pc : Nat) (ml : List (Option MV)) (st : List MV) (h hE : List MC) (r : Option MV) (q : MM), mmt[M]? = some q → mx n d M pc ml st h = some (r, hE) →
  ∀ (p : Program) (l : Launch) (e : Env) (R : Room) (s : State) (m : MethodId) (args : Array Value) (below : List Frame) (meth : Method) (c : Code) (H : Heap) (locs : List Loc) (cells slots : Nat) (ads0 ads : List Nat) (D : va_G) (A : Nat → Prop) (ls : Array Slot) (st0 : List Value) (c0 s0 mc ms : Nat),
    p.tables.exec = Jvm.exec → c.code = q.2.1 → c.maxLocals = q.2.2.1 → meth.sig.returnType = q.2.2.2.1 → meth.locks = false → s.vm.findClass (mon q.2.2.2.2.1) = some m.cls → (∀ w ∈ lw_g, w.before args s = true) → meth.name = q.1.name → Xf s → Xc s → (∀ q, s.heap.size ≤ q → A q) →
    d ≤ R.frames → 41 * d ≤ R.locals → mc ≤ R.cells → ms ≤ R.slots → (∃ l, ads = ads0 ++ l) → Wd D A s H ads h → va_S A s.heap H locs → Lr ads ml ls q.2.2.1 → vrs ads st st0 →
    h.length = c0 + cells → mslots h = s0 + slots → hE.length = c0 + mc → mslots hE = s0 + ms →
    W p l e R s m args below meth c H locs cells slots (MQ below (QcM D A ads0 hE r) args s mc ms A) (F0 m pc ls st0)
/-- a run is a contract -/
theorem met_of {n : Nat} (hS : Sim n) {d M : Nat} {as : List MV} {h hE : List MC} {r : Option MV} {q : MM} (hq : mmt[M]? = some q) (hmx : mx n d M 0 (as.map some ++ List.replicate (q.2.2.1 - as.length) none) [] h = some (r, hE)) (l : Launch) (D : va_G) (A : Nat → Prop) (ads : List Nat) (xs : List Value) (hxs : vrs ads as xs) (hlen : as.length ≤ q.2.2.1) :
    Met l q.1 (wsM q) (rmD d (hE.length - h.length) (mslots hE - mslots h)) (PcM D A ads h xs) (QcM D A ads hE r) (hE.length - h.length) (mslots hE - mslots h) A := by
  obtain ⟨f1, f2, f3, f4⟩ := fm hq
  have hmono : hle h hE := mx_mono hmx
  refine Met.ofW (cc := q.2.1) (maxL := q.2.2.1) (ret := q.2.2.2.1) f2 rfl ?_
  intro p e s m args below meth c s₁ B hml hv
  obtain ⟨rfl, hW, hXf, hXc, hA⟩ := hv
  have hts : ∀ w ∈ lw_g, w.before xs.toArray s = true := fun w hw => atoms_spec (ws := wsM q) B.pre w (List.mem_cons_of_mem _ hw)
  have hown : s.vm.findClass (mon q.2.2.2.2.1) = some m.cls := by rw [f4]; exact findClass_of_methodNamed B.named
  rw [lg_entry_eq]
  exact hS d M 0 _ [] h hE r q hq hmx p l e _ s m xs.toArray below meth c s.heap [] 0 0 ads ads D A _ [] h.length (mslots h) _ _ B.exec B.bytes hml B.returns B.notSynchronized hown hts (name_of_methodNamed B.named B.method).1 hXf hXc hA (Nat.le_refl _) (Nat.le_refl _) (Nat.le_refl _) (Nat.le_refl _) ⟨[], by simp⟩ hW va_S.rf (Lr_entry hxs hlen) trivial rfl rfl (by have := hmono.1; omega) (by have := hmono.2; omega)
set_option maxHeartbeats 4000000 in
theorem sim_all : ∀ n, Sim n
  | 0 => by intro d M pc ml st h hE r q hq hmx; simp [mx] at hmx
  | n + 1 => by
    have ih := sim_all n
    intro d M pc ml st h hE r q hq hmx p l e R s m args below meth c H locs cells slots ads0 ads D A ls st0 c0 s0 mc ms he hb hml hret hlk hown hts hname hXf hXc hA hfr hlo hmc hms hads hW hS hL hst hc1 hc2 hc3 hc4
    have hmono := mx_mono hmx
    simp only [hle] at hmono
    unfold mx at hmx
    rw [hq] at hmx
    simp only at hmx
    split at hmx
    · cases hmx
    · next ig len hdg =>
      split at hmx
      · next r2 hr2 =>
        cases hmx
        have e1 : cells = mc := by omega
        have e2 : slots = ms := by omega
        subst e1
        subst e2
        have hfree : ∀ q ∈ locs, A q.base := hS.2.2
        unfold mret at hr2
        split at hr2
        · split at hr2
          · next v ty hty =>
            split at hr2
            · next hl =>
              obtain ⟨rfl, hfit⟩ := hl
              cases hr2
              obtain ⟨r0, rfl, hr0⟩ := vrs_i hst
              match r0, hr0 with
              | [], _ => exact W.zret he hb (hret.trans (by assumption)) (mfit_ok (ads := ads) hfit rfl).1 (fun t ht hw => ⟨ads, hads, ⟨_, rfl, rfl⟩, by rw [ht]; exact Wd_moved hw.alike hW, hS.F ht⟩) hfree hdg
            · cases hr2
          · cases hr2
        · split at hr2
          · next v ty hty =>
            split at hr2
            · next hl =>
              obtain ⟨rfl, hfit⟩ := hl
              cases hr2
              obtain ⟨x, r0, rfl, hx, hr0⟩ := vrs_v hst
              match r0, hr0 with
              | [], _ =>
                have hrt : (∃ n, ty = .object n) ∨ ∃ t, ty = .array t := by
                  cases ty <;> first | exact Or.inl ⟨_, rfl⟩ | exact Or.inr ⟨_, rfl⟩ | (simp [mfit] at hfit)
                exact W.aret he hb (hret.trans (by assumption)) hrt (vr_nr hx) (fun t ht hw => ⟨ads, hads, ⟨_, hx, rfl⟩, by rw [ht]; exact Wd_moved hw.alike hW, hS.F ht⟩) hfree hdg
            · cases hr2
          · cases hr2
        · split at hr2
          · next hty =>
            split at hr2
            · next hl =>
              subst hl
              cases hr2
              match st0, hst with
              | [], _ => exact W.vret he hb (hret.trans (by assumption)) (fun t ht hw => ⟨ads, hads, rfl, by rw [ht]; exact Wd_moved hw.alike hW, hS.F ht⟩) hfree hdg
            · cases hr2
          · cases hr2
        · cases hr2
      · split at hmx
        · next M' d' as rest hcal =>
          split at hmx
          · cases hmx
          · next q' hq' =>
            obtain ⟨⟨r1, h1⟩, hm1, hm2⟩ := Option.bind_eq_some_iff.mp hmx
            simp only at hm2
            have mo1 := mx_mono hm1
            have mo2 := mx_mono hm2
            simp only [hle] at mo1 mo2
            refine sim_cal (d := d) (mc := h1.length - h.length) (ms := mslots h1 - mslots h) (hE := h1) (r := r1) he hb hml hown hts hXf hXc hA hfr hlo hdg hcal hq' hW hS hL hst (fun xs hxs hlen => met_of ih hq' hm1 l D A ads xs hxs hlen) (by omega) (by omega) fun H1 locs1 ads' st1 ha hW1 hS1 hst1 => ?_
            obtain ⟨la, rfl⟩ := ha
            exact ih d M (pc + 3) ml (r1.toList ++ rest) h1 hE r q hq hm2 p l e R s m args below meth c H1 locs1 _ _ ads0 (ads ++ la) D A ls st1 c0 s0 mc ms he hb hml hret hlk hown hts hname hXf hXc hA hfr hlo hmc hms (hm_e (d1 := []) hads ⟨la, rfl⟩) hW1 hS1 (Lr_mono hL) hst1 (by omega) (by omega) hc3 hc4
        · split at hmx
          · next u hu =>
            have mo1 := mnat_mono hu
            have mo2 := mx_mono hmx
            simp only [hle] at mo1 mo2
            refine sim_nat (d := d) he hb hml hown hts hXc hA hfr hlo hdg hu hW hS hL hst (by omega) (by omega) fun H' locs' ls' st1 ads' c' s' ha hW1 hS1 hL1 hst1 e1 e2 => ?_
            exact ih d M u.1 u.2.1 u.2.2.1 u.2.2.2 hE r q hq hmx p l e R s m args below meth c H' locs' c' s' ads0 ads' D A ls' st1 c0 s0 mc ms he hb hml hret hlk hown hts hname hXf hXc hA hfr hlo hmc hms (hm_e (d1 := []) hads ha) hW1 hS1 hL1 hst1 (by omega) (by omega) hc3 hc4
          · split at hmx
            · next u hu =>
              have mo1 := mps_mono hu
              have mo2 := mx_mono hmx
              simp only [hle] at mo1 mo2
              refine sim_ps he hb hown hts (fun hz => by rw [hname]; simpa using hz) hXf hA hdg hu hW hS hL hst (by omega) (by omega) fun H' locs' ls' st1 ads' c' s' ha hW1 hS1 hL1 hst1 e1 e2 => ?_
              exact ih d M u.1 u.2.1 u.2.2.1 u.2.2.2 hE r q hq hmx p l e R s m args below meth c H' locs' c' s' ads0 ads' D A ls' st1 c0 s0 mc ms he hb hml hret hlk hown hts hname hXf hXc hA hfr hlo hmc hms (hm_e (d1 := []) hads ha) hW1 hS1 hL1 hst1 (by omega) (by omega) hc3 hc4
            · cases hmx
/-- EVERY RUN OF THE SMALL MACHINE IS A CONTRACT OF THE MACHINE -/
theorem met_run {n d M : Nat} {as : List MV} {h hE : List MC} {r : Option MV} {q : MM} (hq : mmt[M]? = some q) (hmx : mx n d M 0 (as.map some ++ List.replicate (q.2.2.1 - as.length) none) [] h = some (r, hE)) (l : Launch) (D : va_G) (A : Nat → Prop) (ads : List Nat) (xs : List Value) (hxs : vrs ads as xs) (hlen : as.length ≤ q.2.2.1) :
    Met l q.1 (wsM q) (rmD d (hE.length - h.length) (mslots hE - mslots h)) (PcM D A ads h xs) (QcM D A ads hE r) (hE.length - h.length) (mslots hE - mslots h) A :=
  met_of (sim_all n) hq hmx l D A ads xs hxs hlen
