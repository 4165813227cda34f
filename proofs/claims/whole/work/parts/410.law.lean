def R_law : String := "CoinPairsLaw"
def lw_P (b : Addr) (xs : List Int32) (args : Array Value) (s : State) : Prop := args = #[.ref b] ∧ s.IntsAt b xs ∧ xs.length ≤ 3072 ∧ (Jvm.Cond.and given_1 narrow_1).before args s = true
def lw_Q (_ : Array Value) (s : State) (o : Outcome) (t : State) : Prop := o = .returned (some (.int 1)) ∧ Framed s o t [] 600000 7302250
def lw_Z (below : List Frame) (a : Array Value) (s : State) : State → Prop := fun t => ∃ o, t.status = .running ∧ Ended t below o ∧ lw_Q a s o t
/-- the law's own end, with 1 on the stack, nothing written that was there before, its room as the claim has it -/
theorem lw_ret {p : Program} {l : Launch} {e : Env} {s : State} {m : MethodId} {below : List Frame} {meth : Method} {c : Code} {b : Nat} (hx : p.tables.exec = Jvm.exec) (hb : c.code = code) (hr : meth.sig.returnType = ret) (hlocks : meth.locks = false) {pc : Nat} {H : Heap} {ls : Array Slot} (hdg : decode code pc = .ok (.ireturn, 1)) : W p l e room_1 s m #[Value.ref b] below meth c H [] 600000 7302250 (lw_Z below #[Value.ref b] s) (F0 m pc ls [.int 1]) := by
  intro T hT X
  obtain ⟨fs, hret, hrun, hended, hW, hframe⟩ := X.leave (v := some (.int 1)) (hlocks := hlocks) (fun h => by rw [hr] at h; cases h)
  have hmeth' : T.vm.method? m = some meth := X.method'
  refine ⟨T.setFrames fs, ?_, .returned (some (.int 1)), hrun, hended, rfl, ⟨_, rfl⟩, hW, hframe⟩
  jvm_step X.here [X.here.top, hx, hb, hdg, hmeth', hr, ret, narrow_b1]
  (try refine ⟨rfl, ?_⟩); (try refine ⟨rfl, ?_⟩)
  first | (intro acts; rw [hret _ acts rfl rfl rfl]) | rw [hret _ _ rfl rfl rfl]
  exact Steps.refl _
/-- what holds at the law's entry: the machine, the code, the tables' words (any of lw_tbl by 'hts w (by decide +kernel)'), the script of L ints xs at the cell b, what the Statement gives of the start (any of its parts by flat_of_before) -/
def lw_At (p : Program) (s : State) (m : MethodId) (meth : Method) (c : Code) (b L : Nat) (xs : Nat → Int32) : Prop :=
  p.tables.exec = Jvm.exec ∧ c.code = code ∧ meth.sig.returnType = ret ∧ c.maxLocals = 4 ∧ s.vm.findClass R_law = some m.cls ∧ (∀ w ∈ lw_tbl, w.before #[Value.ref b] s = true) ∧ va_X b L xs s s.heap ∧ b < s.heap.size ∧ meth.locks = false ∧ (Jvm.Cond.and given_1 narrow_1).before #[Value.ref b] s = true

theorem mw_1_6 : Cond.constantLong RL 189 (4294967295) ∈ wsL_law := mr_1 _ (List.mem_of_getElem? (i := 6) rfl)
theorem mw_9_5 : Cond.methodLink RL 13 yX11_feed ∈ wsL_law := mr_9 _ (List.mem_of_getElem? (i := 5) rfl)
theorem mw_9_6 : Cond.instanceMethod yX11_feed ∈ wsL_law := mr_9 _ (List.mem_of_getElem? (i := 6) rfl)
theorem mw_9_7 : Cond.selects RX11 yX11_feed yX11_feed ∈ wsL_law := mr_9 _ (List.mem_of_getElem? (i := 7) rfl)
theorem mw_9_8 : Cond.code yX11_feed cX11_feed 6 (some .int) ∈ wsL_law := mr_9 _ (List.mem_of_getElem? (i := 8) rfl)
theorem mw_9_15 : Cond.methodLink RL 17 yX12_feed ∈ wsL_law := mr_9 _ (List.mem_of_getElem? (i := 15) rfl)
theorem mw_9_16 : Cond.instanceMethod yX12_feed ∈ wsL_law := mr_9 _ (List.mem_of_getElem? (i := 16) rfl)
theorem mw_9_17 : Cond.selects RX12 yX12_feed yX12_feed ∈ wsL_law := mr_9 _ (List.mem_of_getElem? (i := 17) rfl)
theorem mw_9_18 : Cond.code yX12_feed cX12_feed 8 (some .int) ∈ wsL_law := mr_9 _ (List.mem_of_getElem? (i := 18) rfl)
theorem mw_9_21 : Cond.methodLink RL 18 yX11_valley ∈ wsL_law := mr_9 _ (List.mem_of_getElem? (i := 21) rfl)
theorem mw_9_22 : Cond.instanceMethod yX11_valley ∈ wsL_law := mr_9 _ (List.mem_of_getElem? (i := 22) rfl)
theorem mw_9_23 : Cond.selects RX11 yX11_valley yX11_valley ∈ wsL_law := mr_9 _ (List.mem_of_getElem? (i := 23) rfl)
theorem mw_10_0 : Cond.code yX11_valley cX11_valley 2 (some .int) ∈ wsL_law := mr_10 _ (List.mem_of_getElem? (i := 0) rfl)
theorem mw_23_5 : Cond.methodLink RL 22 yX12_valley ∈ wsL_law := mr_23 _ (List.mem_of_getElem? (i := 5) rfl)
theorem mw_23_6 : Cond.instanceMethod yX12_valley ∈ wsL_law := mr_23 _ (List.mem_of_getElem? (i := 6) rfl)
theorem mw_23_7 : Cond.selects RX12 yX12_valley yX12_valley ∈ wsL_law := mr_23 _ (List.mem_of_getElem? (i := 7) rfl)
theorem mw_23_8 : Cond.code yX12_valley cX12_valley 3 (some .int) ∈ wsL_law := mr_23 _ (List.mem_of_getElem? (i := 8) rfl)
theorem mw_28_13 : Cond.methodLink RL 23 yX11_fault ∈ wsL_law := mr_28 _ (List.mem_of_getElem? (i := 13) rfl)
theorem mw_28_14 : Cond.instanceMethod yX11_fault ∈ wsL_law := mr_28 _ (List.mem_of_getElem? (i := 14) rfl)
theorem mw_28_15 : Cond.selects RX11 yX11_fault yX11_fault ∈ wsL_law := mr_28 _ (List.mem_of_getElem? (i := 15) rfl)
theorem mw_28_16 : Cond.code yX11_fault cX11_fault 2 (some .int) ∈ wsL_law := mr_28 _ (List.mem_of_getElem? (i := 16) rfl)
theorem mw_28_18 : Cond.methodLink RL 26 yX12_fault ∈ wsL_law := mr_28 _ (List.mem_of_getElem? (i := 18) rfl)
theorem mw_28_19 : Cond.instanceMethod yX12_fault ∈ wsL_law := mr_28 _ (List.mem_of_getElem? (i := 19) rfl)
theorem mw_28_20 : Cond.selects RX12 yX12_fault yX12_fault ∈ wsL_law := mr_28 _ (List.mem_of_getElem? (i := 20) rfl)
theorem mw_28_21 : Cond.code yX12_fault cX12_fault 2 (some .int) ∈ wsL_law := mr_28 _ (List.mem_of_getElem? (i := 21) rfl)
theorem mw_28_22 : Cond.methodLink RL 27 yX11_person ∈ wsL_law := mr_28 _ (List.mem_of_getElem? (i := 22) rfl)
theorem mw_28_23 : Cond.instanceMethod yX11_person ∈ wsL_law := mr_28 _ (List.mem_of_getElem? (i := 23) rfl)
theorem mw_29_0 : Cond.selects RX11 yX11_person yX11_person ∈ wsL_law := mr_29 _ (List.mem_of_getElem? (i := 0) rfl)
theorem mw_29_1 : Cond.code yX11_person cX11_person 3 (some .int) ∈ wsL_law := mr_29 _ (List.mem_of_getElem? (i := 1) rfl)
theorem mw_29_9 : Cond.methodLink RL 31 yX12_person ∈ wsL_law := mr_29 _ (List.mem_of_getElem? (i := 9) rfl)
theorem mw_29_10 : Cond.instanceMethod yX12_person ∈ wsL_law := mr_29 _ (List.mem_of_getElem? (i := 10) rfl)
theorem mw_29_11 : Cond.selects RX12 yX12_person yX12_person ∈ wsL_law := mr_29 _ (List.mem_of_getElem? (i := 11) rfl)
theorem mw_29_12 : Cond.code yX12_person cX12_person 3 (some .int) ∈ wsL_law := mr_29 _ (List.mem_of_getElem? (i := 12) rfl)
theorem mw_29_17 : Cond.methodLink RL 32 yX11_coin ∈ wsL_law := mr_29 _ (List.mem_of_getElem? (i := 17) rfl)
theorem mw_29_18 : Cond.instanceMethod yX11_coin ∈ wsL_law := mr_29 _ (List.mem_of_getElem? (i := 18) rfl)
theorem mw_29_19 : Cond.selects RX11 yX11_coin yX11_coin ∈ wsL_law := mr_29 _ (List.mem_of_getElem? (i := 19) rfl)
theorem mw_29_20 : Cond.code yX11_coin cX11_coin 3 (some .int) ∈ wsL_law := mr_29 _ (List.mem_of_getElem? (i := 20) rfl)
theorem mw_30_5 : Cond.methodLink RL 35 yX12_coin ∈ wsL_law := mr_30 _ (List.mem_of_getElem? (i := 5) rfl)
theorem mw_30_6 : Cond.instanceMethod yX12_coin ∈ wsL_law := mr_30 _ (List.mem_of_getElem? (i := 6) rfl)
theorem mw_30_7 : Cond.selects RX12 yX12_coin yX12_coin ∈ wsL_law := mr_30 _ (List.mem_of_getElem? (i := 7) rfl)
theorem mw_30_8 : Cond.code yX12_coin cX12_coin 3 (some .int) ∈ wsL_law := mr_30 _ (List.mem_of_getElem? (i := 8) rfl)
theorem mw_30_13 : Cond.methodLink RL 36 yX11_road ∈ wsL_law := mr_30 _ (List.mem_of_getElem? (i := 13) rfl)
theorem mw_30_14 : Cond.instanceMethod yX11_road ∈ wsL_law := mr_30 _ (List.mem_of_getElem? (i := 14) rfl)
theorem mw_30_15 : Cond.selects RX11 yX11_road yX11_road ∈ wsL_law := mr_30 _ (List.mem_of_getElem? (i := 15) rfl)
theorem mw_30_16 : Cond.code yX11_road cX11_road 3 (some .int) ∈ wsL_law := mr_30 _ (List.mem_of_getElem? (i := 16) rfl)
theorem mw_30_21 : Cond.methodLink RL 39 yX12_road ∈ wsL_law := mr_30 _ (List.mem_of_getElem? (i := 21) rfl)
theorem mw_30_22 : Cond.instanceMethod yX12_road ∈ wsL_law := mr_30 _ (List.mem_of_getElem? (i := 22) rfl)
theorem mw_30_23 : Cond.selects RX12 yX12_road yX12_road ∈ wsL_law := mr_30 _ (List.mem_of_getElem? (i := 23) rfl)
theorem mw_31_0 : Cond.code yX12_road cX12_road 3 (some .int) ∈ wsL_law := mr_31 _ (List.mem_of_getElem? (i := 0) rfl)
theorem mw_31_6 : Cond.methodLink RL 40 yX11_far ∈ wsL_law := mr_31 _ (List.mem_of_getElem? (i := 6) rfl)
theorem mw_31_7 : Cond.instanceMethod yX11_far ∈ wsL_law := mr_31 _ (List.mem_of_getElem? (i := 7) rfl)
theorem mw_31_8 : Cond.selects RX11 yX11_far yX11_far ∈ wsL_law := mr_31 _ (List.mem_of_getElem? (i := 8) rfl)
theorem mw_31_9 : Cond.code yX11_far cX11_far 3 (some .int) ∈ wsL_law := mr_31 _ (List.mem_of_getElem? (i := 9) rfl)
theorem mw_31_15 : Cond.methodLink RL 43 yX12_far ∈ wsL_law := mr_31 _ (List.mem_of_getElem? (i := 15) rfl)
theorem mw_31_16 : Cond.instanceMethod yX12_far ∈ wsL_law := mr_31 _ (List.mem_of_getElem? (i := 16) rfl)
theorem mw_31_17 : Cond.selects RX12 yX12_far yX12_far ∈ wsL_law := mr_31 _ (List.mem_of_getElem? (i := 17) rfl)
theorem mw_31_18 : Cond.code yX12_far cX12_far 3 (some .int) ∈ wsL_law := mr_31 _ (List.mem_of_getElem? (i := 18) rfl)
theorem mw_32_11 : Cond.methodLink RL 44 yX11_why ∈ wsL_law := mr_32 _ (List.mem_of_getElem? (i := 11) rfl)
theorem mw_32_12 : Cond.instanceMethod yX11_why ∈ wsL_law := mr_32 _ (List.mem_of_getElem? (i := 12) rfl)
theorem mw_32_13 : Cond.selects RX11 yX11_why yX11_why ∈ wsL_law := mr_32 _ (List.mem_of_getElem? (i := 13) rfl)
theorem mw_32_14 : Cond.code yX11_why cX11_why 6 (some .int) ∈ wsL_law := mr_32 _ (List.mem_of_getElem? (i := 14) rfl)
theorem mw_35_8 : Cond.methodLink RL 48 yX12_why ∈ wsL_law := mr_35 _ (List.mem_of_getElem? (i := 8) rfl)
theorem mw_35_9 : Cond.instanceMethod yX12_why ∈ wsL_law := mr_35 _ (List.mem_of_getElem? (i := 9) rfl)
theorem mw_35_10 : Cond.selects RX12 yX12_why yX12_why ∈ wsL_law := mr_35 _ (List.mem_of_getElem? (i := 10) rfl)
theorem mw_35_11 : Cond.code yX12_why cX12_why 5 (some .int) ∈ wsL_law := mr_35 _ (List.mem_of_getElem? (i := 11) rfl)
theorem mw_37_9 : Cond.methodLink RL 49 yX11_worn ∈ wsL_law := mr_37 _ (List.mem_of_getElem? (i := 9) rfl)
theorem mw_37_10 : Cond.instanceMethod yX11_worn ∈ wsL_law := mr_37 _ (List.mem_of_getElem? (i := 10) rfl)
theorem mw_37_11 : Cond.selects RX11 yX11_worn yX11_worn ∈ wsL_law := mr_37 _ (List.mem_of_getElem? (i := 11) rfl)
theorem mw_37_12 : Cond.code yX11_worn cX11_worn 6 (some .int) ∈ wsL_law := mr_37 _ (List.mem_of_getElem? (i := 12) rfl)
theorem mw_37_13 : Cond.methodLink RL 52 yX12_worn ∈ wsL_law := mr_37 _ (List.mem_of_getElem? (i := 13) rfl)
theorem mw_37_14 : Cond.instanceMethod yX12_worn ∈ wsL_law := mr_37 _ (List.mem_of_getElem? (i := 14) rfl)
theorem mw_37_15 : Cond.selects RX12 yX12_worn yX12_worn ∈ wsL_law := mr_37 _ (List.mem_of_getElem? (i := 15) rfl)
theorem mw_37_16 : Cond.code yX12_worn cX12_worn 6 (some .int) ∈ wsL_law := mr_37 _ (List.mem_of_getElem? (i := 16) rfl)
theorem mw_38_1 : Cond.methodLink RL 53 yX11_bearers ∈ wsL_law := mr_38 _ (List.mem_of_getElem? (i := 1) rfl)
theorem mw_38_2 : Cond.instanceMethod yX11_bearers ∈ wsL_law := mr_38 _ (List.mem_of_getElem? (i := 2) rfl)
theorem mw_38_3 : Cond.selects RX11 yX11_bearers yX11_bearers ∈ wsL_law := mr_38 _ (List.mem_of_getElem? (i := 3) rfl)
theorem mw_38_4 : Cond.code yX11_bearers cX11_bearers 5 (some .int) ∈ wsL_law := mr_38 _ (List.mem_of_getElem? (i := 4) rfl)
theorem mw_38_11 : Cond.methodLink RL 56 yX12_bearers ∈ wsL_law := mr_38 _ (List.mem_of_getElem? (i := 11) rfl)
theorem mw_38_12 : Cond.instanceMethod yX12_bearers ∈ wsL_law := mr_38 _ (List.mem_of_getElem? (i := 12) rfl)
theorem mw_38_13 : Cond.selects RX12 yX12_bearers yX12_bearers ∈ wsL_law := mr_38 _ (List.mem_of_getElem? (i := 13) rfl)
theorem mw_38_14 : Cond.code yX12_bearers cX12_bearers 3 (some .int) ∈ wsL_law := mr_38 _ (List.mem_of_getElem? (i := 14) rfl)
theorem mw_38_19 : Cond.methodLink RL 57 yX11_carry ∈ wsL_law := mr_38 _ (List.mem_of_getElem? (i := 19) rfl)
theorem mw_38_20 : Cond.instanceMethod yX11_carry ∈ wsL_law := mr_38 _ (List.mem_of_getElem? (i := 20) rfl)
theorem mw_38_21 : Cond.selects RX11 yX11_carry yX11_carry ∈ wsL_law := mr_38 _ (List.mem_of_getElem? (i := 21) rfl)
theorem mw_38_22 : Cond.code yX11_carry cX11_carry 6 (some .int) ∈ wsL_law := mr_38 _ (List.mem_of_getElem? (i := 22) rfl)
theorem mw_39_13 : Cond.methodLink RL 60 yX12_carry ∈ wsL_law := mr_39 _ (List.mem_of_getElem? (i := 13) rfl)
theorem mw_39_14 : Cond.instanceMethod yX12_carry ∈ wsL_law := mr_39 _ (List.mem_of_getElem? (i := 14) rfl)
theorem mw_39_15 : Cond.selects RX12 yX12_carry yX12_carry ∈ wsL_law := mr_39 _ (List.mem_of_getElem? (i := 15) rfl)
theorem mw_39_16 : Cond.code yX12_carry cX12_carry 7 (some .int) ∈ wsL_law := mr_39 _ (List.mem_of_getElem? (i := 16) rfl)
theorem mw_40_5 : Cond.methodLink RL 61 yX11_quarrel ∈ wsL_law := mr_40 _ (List.mem_of_getElem? (i := 5) rfl)
theorem mw_40_6 : Cond.instanceMethod yX11_quarrel ∈ wsL_law := mr_40 _ (List.mem_of_getElem? (i := 6) rfl)
theorem mw_40_7 : Cond.selects RX11 yX11_quarrel yX11_quarrel ∈ wsL_law := mr_40 _ (List.mem_of_getElem? (i := 7) rfl)
theorem mw_40_8 : Cond.code yX11_quarrel cX11_quarrel 4 (some .int) ∈ wsL_law := mr_40 _ (List.mem_of_getElem? (i := 8) rfl)
theorem mw_40_16 : Cond.methodLink RL 64 yX12_quarrel ∈ wsL_law := mr_40 _ (List.mem_of_getElem? (i := 16) rfl)
theorem mw_40_17 : Cond.instanceMethod yX12_quarrel ∈ wsL_law := mr_40 _ (List.mem_of_getElem? (i := 17) rfl)
theorem mw_40_18 : Cond.selects RX12 yX12_quarrel yX12_quarrel ∈ wsL_law := mr_40 _ (List.mem_of_getElem? (i := 18) rfl)
theorem mw_40_19 : Cond.code yX12_quarrel cX12_quarrel 3 (some .int) ∈ wsL_law := mr_40 _ (List.mem_of_getElem? (i := 19) rfl)
theorem mw_41_4 : Cond.methodLink RL 65 yX11_hour ∈ wsL_law := mr_41 _ (List.mem_of_getElem? (i := 4) rfl)
theorem mw_41_5 : Cond.instanceMethod yX11_hour ∈ wsL_law := mr_41 _ (List.mem_of_getElem? (i := 5) rfl)
theorem mw_41_6 : Cond.selects RX11 yX11_hour yX11_hour ∈ wsL_law := mr_41 _ (List.mem_of_getElem? (i := 6) rfl)
theorem mw_41_7 : Cond.code yX11_hour cX11_hour 3 (some .int) ∈ wsL_law := mr_41 _ (List.mem_of_getElem? (i := 7) rfl)
theorem mw_41_13 : Cond.methodLink RL 68 yX12_hour ∈ wsL_law := mr_41 _ (List.mem_of_getElem? (i := 13) rfl)
theorem mw_41_14 : Cond.instanceMethod yX12_hour ∈ wsL_law := mr_41 _ (List.mem_of_getElem? (i := 14) rfl)
theorem mw_41_15 : Cond.selects RX12 yX12_hour yX12_hour ∈ wsL_law := mr_41 _ (List.mem_of_getElem? (i := 15) rfl)
theorem mw_41_16 : Cond.code yX12_hour cX12_hour 2 (some .int) ∈ wsL_law := mr_41 _ (List.mem_of_getElem? (i := 16) rfl)
theorem mw_41_18 : Cond.methodLink RL 69 yX11_undo ∈ wsL_law := mr_41 _ (List.mem_of_getElem? (i := 18) rfl)
theorem mw_41_19 : Cond.instanceMethod yX11_undo ∈ wsL_law := mr_41 _ (List.mem_of_getElem? (i := 19) rfl)
theorem mw_41_20 : Cond.selects RX11 yX11_undo yX11_undo ∈ wsL_law := mr_41 _ (List.mem_of_getElem? (i := 20) rfl)
theorem mw_41_21 : Cond.code yX11_undo cX11_undo 2 (some .int) ∈ wsL_law := mr_41 _ (List.mem_of_getElem? (i := 21) rfl)
theorem mw_42_7 : Cond.methodLink RL 72 yX12_undo ∈ wsL_law := mr_42 _ (List.mem_of_getElem? (i := 7) rfl)
theorem mw_42_8 : Cond.instanceMethod yX12_undo ∈ wsL_law := mr_42 _ (List.mem_of_getElem? (i := 8) rfl)
theorem mw_42_9 : Cond.selects RX12 yX12_undo yX12_undo ∈ wsL_law := mr_42 _ (List.mem_of_getElem? (i := 9) rfl)
theorem mw_42_10 : Cond.code yX12_undo cX12_undo 3 (some .int) ∈ wsL_law := mr_42 _ (List.mem_of_getElem? (i := 10) rfl)
theorem mw_42_12 : Cond.methodLink RL 73 yX11_judge ∈ wsL_law := mr_42 _ (List.mem_of_getElem? (i := 12) rfl)
theorem mw_42_13 : Cond.instanceMethod yX11_judge ∈ wsL_law := mr_42 _ (List.mem_of_getElem? (i := 13) rfl)
theorem mw_42_14 : Cond.selects RX11 yX11_judge yX11_judge ∈ wsL_law := mr_42 _ (List.mem_of_getElem? (i := 14) rfl)
theorem mw_42_15 : Cond.code yX11_judge cX11_judge 6 (some .int) ∈ wsL_law := mr_42 _ (List.mem_of_getElem? (i := 15) rfl)
theorem mw_44_4 : Cond.methodLink RL 76 yX12_judge ∈ wsL_law := mr_44 _ (List.mem_of_getElem? (i := 4) rfl)
theorem mw_44_5 : Cond.instanceMethod yX12_judge ∈ wsL_law := mr_44 _ (List.mem_of_getElem? (i := 5) rfl)
theorem mw_44_6 : Cond.selects RX12 yX12_judge yX12_judge ∈ wsL_law := mr_44 _ (List.mem_of_getElem? (i := 6) rfl)
theorem mw_44_7 : Cond.code yX12_judge cX12_judge 8 (some .int) ∈ wsL_law := mr_44 _ (List.mem_of_getElem? (i := 7) rfl)
theorem mw_45_19 : Cond.methodLink RL 77 yX11_perform ∈ wsL_law := mr_45 _ (List.mem_of_getElem? (i := 19) rfl)
theorem mw_45_20 : Cond.instanceMethod yX11_perform ∈ wsL_law := mr_45 _ (List.mem_of_getElem? (i := 20) rfl)
theorem mw_45_21 : Cond.selects RX11 yX11_perform yX11_perform ∈ wsL_law := mr_45 _ (List.mem_of_getElem? (i := 21) rfl)
theorem mw_45_22 : Cond.code yX11_perform cX11_perform 3 (some .int) ∈ wsL_law := mr_45 _ (List.mem_of_getElem? (i := 22) rfl)
theorem mw_45_23 : Cond.methodLink RL 80 yX12_perform ∈ wsL_law := mr_45 _ (List.mem_of_getElem? (i := 23) rfl)
theorem mw_46_0 : Cond.instanceMethod yX12_perform ∈ wsL_law := mr_46 _ (List.mem_of_getElem? (i := 0) rfl)
theorem mw_46_1 : Cond.selects RX12 yX12_perform yX12_perform ∈ wsL_law := mr_46 _ (List.mem_of_getElem? (i := 1) rfl)
theorem mw_46_2 : Cond.code yX12_perform cX12_perform 4 (some .int) ∈ wsL_law := mr_46 _ (List.mem_of_getElem? (i := 2) rfl)
theorem mw_46_3 : Cond.methodLink RL 81 yX11_year ∈ wsL_law := mr_46 _ (List.mem_of_getElem? (i := 3) rfl)
theorem mw_46_4 : Cond.instanceMethod yX11_year ∈ wsL_law := mr_46 _ (List.mem_of_getElem? (i := 4) rfl)
theorem mw_46_5 : Cond.selects RX11 yX11_year yX11_year ∈ wsL_law := mr_46 _ (List.mem_of_getElem? (i := 5) rfl)
theorem mw_46_6 : Cond.code yX11_year cX11_year 5 (some .int) ∈ wsL_law := mr_46 _ (List.mem_of_getElem? (i := 6) rfl)
theorem mw_46_20 : Cond.methodLink RL 84 yX12_year ∈ wsL_law := mr_46 _ (List.mem_of_getElem? (i := 20) rfl)
theorem mw_46_21 : Cond.instanceMethod yX12_year ∈ wsL_law := mr_46 _ (List.mem_of_getElem? (i := 21) rfl)
theorem mw_46_22 : Cond.selects RX12 yX12_year yX12_year ∈ wsL_law := mr_46 _ (List.mem_of_getElem? (i := 22) rfl)
theorem mw_46_23 : Cond.code yX12_year cX12_year 6 (some .int) ∈ wsL_law := mr_46 _ (List.mem_of_getElem? (i := 23) rfl)
theorem mw_47_11 : Cond.methodLink RL 85 yX11_soonest ∈ wsL_law := mr_47 _ (List.mem_of_getElem? (i := 11) rfl)
theorem mw_47_12 : Cond.instanceMethod yX11_soonest ∈ wsL_law := mr_47 _ (List.mem_of_getElem? (i := 12) rfl)
theorem mw_47_13 : Cond.selects RX11 yX11_soonest yX11_soonest ∈ wsL_law := mr_47 _ (List.mem_of_getElem? (i := 13) rfl)
theorem mw_47_14 : Cond.code yX11_soonest cX11_soonest 3 (some .int) ∈ wsL_law := mr_47 _ (List.mem_of_getElem? (i := 14) rfl)
theorem mw_49_2 : Cond.methodLink RL 88 yX12_soonest ∈ wsL_law := mr_49 _ (List.mem_of_getElem? (i := 2) rfl)
theorem mw_49_3 : Cond.instanceMethod yX12_soonest ∈ wsL_law := mr_49 _ (List.mem_of_getElem? (i := 3) rfl)
theorem mw_49_4 : Cond.selects RX12 yX12_soonest yX12_soonest ∈ wsL_law := mr_49 _ (List.mem_of_getElem? (i := 4) rfl)
theorem mw_49_5 : Cond.code yX12_soonest cX12_soonest 3 (some .int) ∈ wsL_law := mr_49 _ (List.mem_of_getElem? (i := 5) rfl)
theorem mw_49_22 : Cond.methodLink RL 89 yX11_way ∈ wsL_law := mr_49 _ (List.mem_of_getElem? (i := 22) rfl)
theorem mw_49_23 : Cond.instanceMethod yX11_way ∈ wsL_law := mr_49 _ (List.mem_of_getElem? (i := 23) rfl)
theorem mw_50_0 : Cond.selects RX11 yX11_way yX11_way ∈ wsL_law := mr_50 _ (List.mem_of_getElem? (i := 0) rfl)
theorem mw_50_1 : Cond.code yX11_way cX11_way 7 (some .int) ∈ wsL_law := mr_50 _ (List.mem_of_getElem? (i := 1) rfl)
theorem mw_50_10 : Cond.methodLink RL 93 yX12_way ∈ wsL_law := mr_50 _ (List.mem_of_getElem? (i := 10) rfl)
theorem mw_50_11 : Cond.instanceMethod yX12_way ∈ wsL_law := mr_50 _ (List.mem_of_getElem? (i := 11) rfl)
theorem mw_50_12 : Cond.selects RX12 yX12_way yX12_way ∈ wsL_law := mr_50 _ (List.mem_of_getElem? (i := 12) rfl)
theorem mw_50_13 : Cond.code yX12_way cX12_way 4 (some .int) ∈ wsL_law := mr_50 _ (List.mem_of_getElem? (i := 13) rfl)
theorem mw_51_1 : Cond.methodLink RL 94 yX11_rows ∈ wsL_law := mr_51 _ (List.mem_of_getElem? (i := 1) rfl)
theorem mw_51_2 : Cond.instanceMethod yX11_rows ∈ wsL_law := mr_51 _ (List.mem_of_getElem? (i := 2) rfl)
theorem mw_51_3 : Cond.selects RX11 yX11_rows yX11_rows ∈ wsL_law := mr_51 _ (List.mem_of_getElem? (i := 3) rfl)
theorem mw_51_4 : Cond.code yX11_rows cX11_rows 4 (some .long) ∈ wsL_law := mr_51 _ (List.mem_of_getElem? (i := 4) rfl)
theorem mw_51_15 : Cond.methodLink RL 98 yX12_rows ∈ wsL_law := mr_51 _ (List.mem_of_getElem? (i := 15) rfl)
theorem mw_51_16 : Cond.instanceMethod yX12_rows ∈ wsL_law := mr_51 _ (List.mem_of_getElem? (i := 16) rfl)
theorem mw_51_17 : Cond.selects RX12 yX12_rows yX12_rows ∈ wsL_law := mr_51 _ (List.mem_of_getElem? (i := 17) rfl)
theorem mw_51_18 : Cond.code yX12_rows cX12_rows 7 (some .long) ∈ wsL_law := mr_51 _ (List.mem_of_getElem? (i := 18) rfl)
theorem mw_51_22 : Cond.methodLink RL 99 yX11_reach ∈ wsL_law := mr_51 _ (List.mem_of_getElem? (i := 22) rfl)
theorem mw_51_23 : Cond.instanceMethod yX11_reach ∈ wsL_law := mr_51 _ (List.mem_of_getElem? (i := 23) rfl)
theorem mw_52_0 : Cond.selects RX11 yX11_reach yX11_reach ∈ wsL_law := mr_52 _ (List.mem_of_getElem? (i := 0) rfl)
theorem mw_52_1 : Cond.code yX11_reach cX11_reach 2 (some .int) ∈ wsL_law := mr_52 _ (List.mem_of_getElem? (i := 1) rfl)
theorem mw_52_10 : Cond.methodLink RL 102 yX12_reach ∈ wsL_law := mr_52 _ (List.mem_of_getElem? (i := 10) rfl)
theorem mw_52_11 : Cond.instanceMethod yX12_reach ∈ wsL_law := mr_52 _ (List.mem_of_getElem? (i := 11) rfl)
theorem mw_52_12 : Cond.selects RX12 yX12_reach yX12_reach ∈ wsL_law := mr_52 _ (List.mem_of_getElem? (i := 12) rfl)
theorem mw_52_13 : Cond.code yX12_reach cX12_reach 6 (some .int) ∈ wsL_law := mr_52 _ (List.mem_of_getElem? (i := 13) rfl)
theorem mw_52_14 : Cond.methodLink RL 103 yX11_pays ∈ wsL_law := mr_52 _ (List.mem_of_getElem? (i := 14) rfl)
theorem mw_52_15 : Cond.instanceMethod yX11_pays ∈ wsL_law := mr_52 _ (List.mem_of_getElem? (i := 15) rfl)
theorem mw_52_16 : Cond.selects RX11 yX11_pays yX11_pays ∈ wsL_law := mr_52 _ (List.mem_of_getElem? (i := 16) rfl)
theorem mw_52_17 : Cond.code yX11_pays cX11_pays 5 (some .int) ∈ wsL_law := mr_52 _ (List.mem_of_getElem? (i := 17) rfl)
theorem mw_53_16 : Cond.methodLink RL 106 yX12_pays ∈ wsL_law := mr_53 _ (List.mem_of_getElem? (i := 16) rfl)
theorem mw_53_17 : Cond.instanceMethod yX12_pays ∈ wsL_law := mr_53 _ (List.mem_of_getElem? (i := 17) rfl)
theorem mw_53_18 : Cond.selects RX12 yX12_pays yX12_pays ∈ wsL_law := mr_53 _ (List.mem_of_getElem? (i := 18) rfl)
theorem mw_53_19 : Cond.code yX12_pays cX12_pays 11 (some .int) ∈ wsL_law := mr_53 _ (List.mem_of_getElem? (i := 19) rfl)
theorem mw_54_1 : Cond.methodLink RL 107 yX11_pairs ∈ wsL_law := mr_54 _ (List.mem_of_getElem? (i := 1) rfl)
theorem mw_54_2 : Cond.instanceMethod yX11_pairs ∈ wsL_law := mr_54 _ (List.mem_of_getElem? (i := 2) rfl)
theorem mw_54_3 : Cond.selects RX11 yX11_pairs yX11_pairs ∈ wsL_law := mr_54 _ (List.mem_of_getElem? (i := 3) rfl)
theorem mw_54_4 : Cond.code yX11_pairs cX11_pairs 2 (some .int) ∈ wsL_law := mr_54 _ (List.mem_of_getElem? (i := 4) rfl)
theorem mw_55_15 : Cond.methodLink RL 110 yX12_pairs ∈ wsL_law := mr_55 _ (List.mem_of_getElem? (i := 15) rfl)
theorem mw_55_16 : Cond.instanceMethod yX12_pairs ∈ wsL_law := mr_55 _ (List.mem_of_getElem? (i := 16) rfl)
theorem mw_55_17 : Cond.selects RX12 yX12_pairs yX12_pairs ∈ wsL_law := mr_55 _ (List.mem_of_getElem? (i := 17) rfl)
theorem mw_55_18 : Cond.code yX12_pairs cX12_pairs 2 (some .int) ∈ wsL_law := mr_55 _ (List.mem_of_getElem? (i := 18) rfl)
theorem mw_56_11 : Cond.methodLink RL 111 yX11_with ∈ wsL_law := mr_56 _ (List.mem_of_getElem? (i := 11) rfl)
theorem mw_56_12 : Cond.instanceMethod yX11_with ∈ wsL_law := mr_56 _ (List.mem_of_getElem? (i := 12) rfl)
theorem mw_56_13 : Cond.selects RX11 yX11_with yX11_with ∈ wsL_law := mr_56 _ (List.mem_of_getElem? (i := 13) rfl)
theorem mw_56_14 : Cond.code yX11_with cX11_with 3 (some .int) ∈ wsL_law := mr_56 _ (List.mem_of_getElem? (i := 14) rfl)
theorem mw_56_16 : Cond.methodLink RL 114 yX12_with ∈ wsL_law := mr_56 _ (List.mem_of_getElem? (i := 16) rfl)
theorem mw_56_17 : Cond.instanceMethod yX12_with ∈ wsL_law := mr_56 _ (List.mem_of_getElem? (i := 17) rfl)
theorem mw_56_18 : Cond.selects RX12 yX12_with yX12_with ∈ wsL_law := mr_56 _ (List.mem_of_getElem? (i := 18) rfl)
theorem mw_56_19 : Cond.code yX12_with cX12_with 6 (some .int) ∈ wsL_law := mr_56 _ (List.mem_of_getElem? (i := 19) rfl)
theorem mw_57_0 : Cond.methodLink RL 115 yX11_lifters ∈ wsL_law := mr_57 _ (List.mem_of_getElem? (i := 0) rfl)
theorem mw_57_1 : Cond.instanceMethod yX11_lifters ∈ wsL_law := mr_57 _ (List.mem_of_getElem? (i := 1) rfl)
theorem mw_57_2 : Cond.selects RX11 yX11_lifters yX11_lifters ∈ wsL_law := mr_57 _ (List.mem_of_getElem? (i := 2) rfl)
theorem mw_57_3 : Cond.code yX11_lifters cX11_lifters 3 (some .int) ∈ wsL_law := mr_57 _ (List.mem_of_getElem? (i := 3) rfl)
theorem mw_57_23 : Cond.methodLink RL 118 yX12_lifters ∈ wsL_law := mr_57 _ (List.mem_of_getElem? (i := 23) rfl)
theorem mw_58_0 : Cond.instanceMethod yX12_lifters ∈ wsL_law := mr_58 _ (List.mem_of_getElem? (i := 0) rfl)
theorem mw_58_1 : Cond.selects RX12 yX12_lifters yX12_lifters ∈ wsL_law := mr_58 _ (List.mem_of_getElem? (i := 1) rfl)
theorem mw_58_2 : Cond.code yX12_lifters cX12_lifters 7 (some .int) ∈ wsL_law := mr_58 _ (List.mem_of_getElem? (i := 2) rfl)
theorem mw_58_6 : Cond.methodLink RL 119 yX11_guards ∈ wsL_law := mr_58 _ (List.mem_of_getElem? (i := 6) rfl)
theorem mw_58_7 : Cond.instanceMethod yX11_guards ∈ wsL_law := mr_58 _ (List.mem_of_getElem? (i := 7) rfl)
theorem mw_58_8 : Cond.selects RX11 yX11_guards yX11_guards ∈ wsL_law := mr_58 _ (List.mem_of_getElem? (i := 8) rfl)
theorem mw_58_9 : Cond.code yX11_guards cX11_guards 4 (some .int) ∈ wsL_law := mr_58 _ (List.mem_of_getElem? (i := 9) rfl)
theorem mw_58_23 : Cond.methodLink RL 122 yX12_guards ∈ wsL_law := mr_58 _ (List.mem_of_getElem? (i := 23) rfl)
theorem mw_59_0 : Cond.instanceMethod yX12_guards ∈ wsL_law := mr_59 _ (List.mem_of_getElem? (i := 0) rfl)
theorem mw_59_1 : Cond.selects RX12 yX12_guards yX12_guards ∈ wsL_law := mr_59 _ (List.mem_of_getElem? (i := 1) rfl)
theorem mw_59_2 : Cond.code yX12_guards cX12_guards 6 (some .int) ∈ wsL_law := mr_59 _ (List.mem_of_getElem? (i := 2) rfl)
theorem mw_59_7 : Cond.methodLink RL 123 yX11_rests ∈ wsL_law := mr_59 _ (List.mem_of_getElem? (i := 7) rfl)
theorem mw_59_8 : Cond.instanceMethod yX11_rests ∈ wsL_law := mr_59 _ (List.mem_of_getElem? (i := 8) rfl)
theorem mw_59_9 : Cond.selects RX11 yX11_rests yX11_rests ∈ wsL_law := mr_59 _ (List.mem_of_getElem? (i := 9) rfl)
theorem mw_59_10 : Cond.code yX11_rests cX11_rests 3 (some .int) ∈ wsL_law := mr_59 _ (List.mem_of_getElem? (i := 10) rfl)
theorem mw_60_7 : Cond.methodLink RL 126 yX12_rests ∈ wsL_law := mr_60 _ (List.mem_of_getElem? (i := 7) rfl)
theorem mw_60_8 : Cond.instanceMethod yX12_rests ∈ wsL_law := mr_60 _ (List.mem_of_getElem? (i := 8) rfl)
theorem mw_60_9 : Cond.selects RX12 yX12_rests yX12_rests ∈ wsL_law := mr_60 _ (List.mem_of_getElem? (i := 9) rfl)
theorem mw_60_10 : Cond.code yX12_rests cX12_rests 7 (some .int) ∈ wsL_law := mr_60 _ (List.mem_of_getElem? (i := 10) rfl)
theorem mw_60_15 : Cond.methodLink RL 127 yX11_lifting ∈ wsL_law := mr_60 _ (List.mem_of_getElem? (i := 15) rfl)
theorem mw_60_16 : Cond.instanceMethod yX11_lifting ∈ wsL_law := mr_60 _ (List.mem_of_getElem? (i := 16) rfl)
theorem mw_60_17 : Cond.selects RX11 yX11_lifting yX11_lifting ∈ wsL_law := mr_60 _ (List.mem_of_getElem? (i := 17) rfl)
theorem mw_60_18 : Cond.code yX11_lifting cX11_lifting 6 (some .int) ∈ wsL_law := mr_60 _ (List.mem_of_getElem? (i := 18) rfl)
theorem mw_60_20 : Cond.methodLink RL 130 yX12_lifting ∈ wsL_law := mr_60 _ (List.mem_of_getElem? (i := 20) rfl)
theorem mw_60_21 : Cond.instanceMethod yX12_lifting ∈ wsL_law := mr_60 _ (List.mem_of_getElem? (i := 21) rfl)
theorem mw_60_22 : Cond.selects RX12 yX12_lifting yX12_lifting ∈ wsL_law := mr_60 _ (List.mem_of_getElem? (i := 22) rfl)
theorem mw_60_23 : Cond.code yX12_lifting cX12_lifting 6 (some .int) ∈ wsL_law := mr_60 _ (List.mem_of_getElem? (i := 23) rfl)
theorem mw_61_0 : Cond.methodLink RL 131 yX11_talk ∈ wsL_law := mr_61 _ (List.mem_of_getElem? (i := 0) rfl)
theorem mw_61_1 : Cond.instanceMethod yX11_talk ∈ wsL_law := mr_61 _ (List.mem_of_getElem? (i := 1) rfl)
theorem mw_61_2 : Cond.selects RX11 yX11_talk yX11_talk ∈ wsL_law := mr_61 _ (List.mem_of_getElem? (i := 2) rfl)
theorem mw_61_3 : Cond.code yX11_talk cX11_talk 3 (some .int) ∈ wsL_law := mr_61 _ (List.mem_of_getElem? (i := 3) rfl)
theorem mw_61_12 : Cond.methodLink RL 134 yX12_talk ∈ wsL_law := mr_61 _ (List.mem_of_getElem? (i := 12) rfl)
theorem mw_61_13 : Cond.instanceMethod yX12_talk ∈ wsL_law := mr_61 _ (List.mem_of_getElem? (i := 13) rfl)
theorem mw_61_14 : Cond.selects RX12 yX12_talk yX12_talk ∈ wsL_law := mr_61 _ (List.mem_of_getElem? (i := 14) rfl)
theorem mw_61_15 : Cond.code yX12_talk cX12_talk 5 (some .int) ∈ wsL_law := mr_61 _ (List.mem_of_getElem? (i := 15) rfl)
theorem mw_61_20 : Cond.methodLink RL 135 yX11_told ∈ wsL_law := mr_61 _ (List.mem_of_getElem? (i := 20) rfl)
theorem mw_61_21 : Cond.instanceMethod yX11_told ∈ wsL_law := mr_61 _ (List.mem_of_getElem? (i := 21) rfl)
theorem mw_61_22 : Cond.selects RX11 yX11_told yX11_told ∈ wsL_law := mr_61 _ (List.mem_of_getElem? (i := 22) rfl)
theorem mw_61_23 : Cond.code yX11_told cX11_told 3 (some .int) ∈ wsL_law := mr_61 _ (List.mem_of_getElem? (i := 23) rfl)
theorem mw_62_0 : Cond.methodLink RL 138 yX12_told ∈ wsL_law := mr_62 _ (List.mem_of_getElem? (i := 0) rfl)
theorem mw_62_1 : Cond.instanceMethod yX12_told ∈ wsL_law := mr_62 _ (List.mem_of_getElem? (i := 1) rfl)
theorem mw_62_2 : Cond.selects RX12 yX12_told yX12_told ∈ wsL_law := mr_62 _ (List.mem_of_getElem? (i := 2) rfl)
theorem mw_62_3 : Cond.code yX12_told cX12_told 4 (some .int) ∈ wsL_law := mr_62 _ (List.mem_of_getElem? (i := 3) rfl)
theorem mw_62_4 : Cond.methodLink RL 139 yX11_camps ∈ wsL_law := mr_62 _ (List.mem_of_getElem? (i := 4) rfl)
theorem mw_62_5 : Cond.instanceMethod yX11_camps ∈ wsL_law := mr_62 _ (List.mem_of_getElem? (i := 5) rfl)
theorem mw_62_6 : Cond.selects RX11 yX11_camps yX11_camps ∈ wsL_law := mr_62 _ (List.mem_of_getElem? (i := 6) rfl)
theorem mw_62_7 : Cond.code yX11_camps cX11_camps 3 (some .int) ∈ wsL_law := mr_62 _ (List.mem_of_getElem? (i := 7) rfl)
theorem mw_62_17 : Cond.methodLink RL 142 yX12_camps ∈ wsL_law := mr_62 _ (List.mem_of_getElem? (i := 17) rfl)
theorem mw_62_18 : Cond.instanceMethod yX12_camps ∈ wsL_law := mr_62 _ (List.mem_of_getElem? (i := 18) rfl)
theorem mw_62_19 : Cond.selects RX12 yX12_camps yX12_camps ∈ wsL_law := mr_62 _ (List.mem_of_getElem? (i := 19) rfl)
theorem mw_62_20 : Cond.code yX12_camps cX12_camps 4 (some .int) ∈ wsL_law := mr_62 _ (List.mem_of_getElem? (i := 20) rfl)
theorem mw_63_1 : Cond.methodLink RL 143 yX11_peace ∈ wsL_law := mr_63 _ (List.mem_of_getElem? (i := 1) rfl)
theorem mw_63_2 : Cond.instanceMethod yX11_peace ∈ wsL_law := mr_63 _ (List.mem_of_getElem? (i := 2) rfl)
theorem mw_63_3 : Cond.selects RX11 yX11_peace yX11_peace ∈ wsL_law := mr_63 _ (List.mem_of_getElem? (i := 3) rfl)
theorem mw_63_4 : Cond.code yX11_peace cX11_peace 1 (some .int) ∈ wsL_law := mr_63 _ (List.mem_of_getElem? (i := 4) rfl)
theorem mw_63_10 : Cond.methodLink RL 147 yX12_peace ∈ wsL_law := mr_63 _ (List.mem_of_getElem? (i := 10) rfl)
theorem mw_63_11 : Cond.instanceMethod yX12_peace ∈ wsL_law := mr_63 _ (List.mem_of_getElem? (i := 11) rfl)
theorem mw_63_12 : Cond.selects RX12 yX12_peace yX12_peace ∈ wsL_law := mr_63 _ (List.mem_of_getElem? (i := 12) rfl)
theorem mw_63_13 : Cond.code yX12_peace cX12_peace 5 (some .int) ∈ wsL_law := mr_63 _ (List.mem_of_getElem? (i := 13) rfl)
theorem mw_63_14 : Cond.methodLink RL 148 yX11_wornBy ∈ wsL_law := mr_63 _ (List.mem_of_getElem? (i := 14) rfl)
theorem mw_63_15 : Cond.instanceMethod yX11_wornBy ∈ wsL_law := mr_63 _ (List.mem_of_getElem? (i := 15) rfl)
theorem mw_63_16 : Cond.selects RX11 yX11_wornBy yX11_wornBy ∈ wsL_law := mr_63 _ (List.mem_of_getElem? (i := 16) rfl)
theorem mw_63_17 : Cond.code yX11_wornBy cX11_wornBy 4 (some .long) ∈ wsL_law := mr_63 _ (List.mem_of_getElem? (i := 17) rfl)
theorem mw_65_9 : Cond.methodLink RL 152 yX12_wornBy ∈ wsL_law := mr_65 _ (List.mem_of_getElem? (i := 9) rfl)
theorem mw_65_10 : Cond.instanceMethod yX12_wornBy ∈ wsL_law := mr_65 _ (List.mem_of_getElem? (i := 10) rfl)
theorem mw_65_11 : Cond.selects RX12 yX12_wornBy yX12_wornBy ∈ wsL_law := mr_65 _ (List.mem_of_getElem? (i := 11) rfl)
theorem mw_65_12 : Cond.code yX12_wornBy cX12_wornBy 4 (some .long) ∈ wsL_law := mr_65 _ (List.mem_of_getElem? (i := 12) rfl)
theorem mw_66_11 : Cond.methodLink RL 153 yX11_wornFirst ∈ wsL_law := mr_66 _ (List.mem_of_getElem? (i := 11) rfl)
theorem mw_66_12 : Cond.instanceMethod yX11_wornFirst ∈ wsL_law := mr_66 _ (List.mem_of_getElem? (i := 12) rfl)
theorem mw_66_13 : Cond.selects RX11 yX11_wornFirst yX11_wornFirst ∈ wsL_law := mr_66 _ (List.mem_of_getElem? (i := 13) rfl)
theorem mw_66_14 : Cond.code yX11_wornFirst cX11_wornFirst 5 (some .int) ∈ wsL_law := mr_66 _ (List.mem_of_getElem? (i := 14) rfl)
theorem mw_66_23 : Cond.methodLink RL 156 yX12_wornFirst ∈ wsL_law := mr_66 _ (List.mem_of_getElem? (i := 23) rfl)
theorem mw_67_0 : Cond.instanceMethod yX12_wornFirst ∈ wsL_law := mr_67 _ (List.mem_of_getElem? (i := 0) rfl)
theorem mw_67_1 : Cond.selects RX12 yX12_wornFirst yX12_wornFirst ∈ wsL_law := mr_67 _ (List.mem_of_getElem? (i := 1) rfl)
theorem mw_67_2 : Cond.code yX12_wornFirst cX12_wornFirst 8 (some .int) ∈ wsL_law := mr_67 _ (List.mem_of_getElem? (i := 2) rfl)
theorem mw_67_7 : Cond.methodLink RL 157 yX11_who ∈ wsL_law := mr_67 _ (List.mem_of_getElem? (i := 7) rfl)
theorem mw_67_8 : Cond.instanceMethod yX11_who ∈ wsL_law := mr_67 _ (List.mem_of_getElem? (i := 8) rfl)
theorem mw_67_9 : Cond.selects RX11 yX11_who yX11_who ∈ wsL_law := mr_67 _ (List.mem_of_getElem? (i := 9) rfl)
theorem mw_67_10 : Cond.code yX11_who cX11_who 5 (some .int) ∈ wsL_law := mr_67 _ (List.mem_of_getElem? (i := 10) rfl)
theorem mw_67_23 : Cond.methodLink RL 160 yX12_who ∈ wsL_law := mr_67 _ (List.mem_of_getElem? (i := 23) rfl)
theorem mw_68_0 : Cond.instanceMethod yX12_who ∈ wsL_law := mr_68 _ (List.mem_of_getElem? (i := 0) rfl)
theorem mw_68_1 : Cond.selects RX12 yX12_who yX12_who ∈ wsL_law := mr_68 _ (List.mem_of_getElem? (i := 1) rfl)
theorem mw_68_2 : Cond.code yX12_who cX12_who 11 (some .int) ∈ wsL_law := mr_68 _ (List.mem_of_getElem? (i := 2) rfl)
theorem mw_68_3 : Cond.methodLink RL 161 yX11_hours ∈ wsL_law := mr_68 _ (List.mem_of_getElem? (i := 3) rfl)
theorem mw_68_4 : Cond.instanceMethod yX11_hours ∈ wsL_law := mr_68 _ (List.mem_of_getElem? (i := 4) rfl)
theorem mw_68_5 : Cond.selects RX11 yX11_hours yX11_hours ∈ wsL_law := mr_68 _ (List.mem_of_getElem? (i := 5) rfl)
theorem mw_68_6 : Cond.code yX11_hours cX11_hours 3 (some .int) ∈ wsL_law := mr_68 _ (List.mem_of_getElem? (i := 6) rfl)
theorem mw_68_22 : Cond.methodLink RL 164 yX12_hours ∈ wsL_law := mr_68 _ (List.mem_of_getElem? (i := 22) rfl)
theorem mw_68_23 : Cond.instanceMethod yX12_hours ∈ wsL_law := mr_68 _ (List.mem_of_getElem? (i := 23) rfl)
theorem mw_69_0 : Cond.selects RX12 yX12_hours yX12_hours ∈ wsL_law := mr_69 _ (List.mem_of_getElem? (i := 0) rfl)
theorem mw_69_1 : Cond.code yX12_hours cX12_hours 3 (some .int) ∈ wsL_law := mr_69 _ (List.mem_of_getElem? (i := 1) rfl)
theorem mw_69_11 : Cond.methodLink RL 165 yX11_attempt ∈ wsL_law := mr_69 _ (List.mem_of_getElem? (i := 11) rfl)
theorem mw_69_12 : Cond.instanceMethod yX11_attempt ∈ wsL_law := mr_69 _ (List.mem_of_getElem? (i := 12) rfl)
theorem mw_69_13 : Cond.selects RX11 yX11_attempt yX11_attempt ∈ wsL_law := mr_69 _ (List.mem_of_getElem? (i := 13) rfl)
theorem mw_69_14 : Cond.code yX11_attempt cX11_attempt 6 (some .int) ∈ wsL_law := mr_69 _ (List.mem_of_getElem? (i := 14) rfl)
theorem mw_70_4 : Cond.methodLink RL 168 yX12_attempt ∈ wsL_law := mr_70 _ (List.mem_of_getElem? (i := 4) rfl)
theorem mw_70_5 : Cond.instanceMethod yX12_attempt ∈ wsL_law := mr_70 _ (List.mem_of_getElem? (i := 5) rfl)
theorem mw_70_6 : Cond.selects RX12 yX12_attempt yX12_attempt ∈ wsL_law := mr_70 _ (List.mem_of_getElem? (i := 6) rfl)
theorem mw_70_7 : Cond.code yX12_attempt cX12_attempt 11 (some .int) ∈ wsL_law := mr_70 _ (List.mem_of_getElem? (i := 7) rfl)
theorem mw_70_12 : Cond.methodLink RL 169 yX11_forces ∈ wsL_law := mr_70 _ (List.mem_of_getElem? (i := 12) rfl)
theorem mw_70_13 : Cond.instanceMethod yX11_forces ∈ wsL_law := mr_70 _ (List.mem_of_getElem? (i := 13) rfl)
theorem mw_70_14 : Cond.selects RX11 yX11_forces yX11_forces ∈ wsL_law := mr_70 _ (List.mem_of_getElem? (i := 14) rfl)
theorem mw_70_15 : Cond.code yX11_forces cX11_forces 3 (some .int) ∈ wsL_law := mr_70 _ (List.mem_of_getElem? (i := 15) rfl)
theorem mw_71_7 : Cond.methodLink RL 172 yX12_forces ∈ wsL_law := mr_71 _ (List.mem_of_getElem? (i := 7) rfl)
theorem mw_71_8 : Cond.instanceMethod yX12_forces ∈ wsL_law := mr_71 _ (List.mem_of_getElem? (i := 8) rfl)
theorem mw_71_9 : Cond.selects RX12 yX12_forces yX12_forces ∈ wsL_law := mr_71 _ (List.mem_of_getElem? (i := 9) rfl)
theorem mw_71_10 : Cond.code yX12_forces cX12_forces 3 (some .int) ∈ wsL_law := mr_71 _ (List.mem_of_getElem? (i := 10) rfl)
theorem mw_71_23 : Cond.methodLink RL 173 yX11_best ∈ wsL_law := mr_71 _ (List.mem_of_getElem? (i := 23) rfl)
theorem mw_72_0 : Cond.instanceMethod yX11_best ∈ wsL_law := mr_72 _ (List.mem_of_getElem? (i := 0) rfl)
theorem mw_72_1 : Cond.selects RX11 yX11_best yX11_best ∈ wsL_law := mr_72 _ (List.mem_of_getElem? (i := 1) rfl)
theorem mw_72_2 : Cond.code yX11_best cX11_best 4 (some .int) ∈ wsL_law := mr_72 _ (List.mem_of_getElem? (i := 2) rfl)
theorem mw_72_7 : Cond.methodLink RL 176 yX12_best ∈ wsL_law := mr_72 _ (List.mem_of_getElem? (i := 7) rfl)
theorem mw_72_8 : Cond.instanceMethod yX12_best ∈ wsL_law := mr_72 _ (List.mem_of_getElem? (i := 8) rfl)
theorem mw_72_9 : Cond.selects RX12 yX12_best yX12_best ∈ wsL_law := mr_72 _ (List.mem_of_getElem? (i := 9) rfl)
theorem mw_72_10 : Cond.code yX12_best cX12_best 6 (some .int) ∈ wsL_law := mr_72 _ (List.mem_of_getElem? (i := 10) rfl)
theorem mw_72_11 : Cond.methodLink RL 177 yX11_chance ∈ wsL_law := mr_72 _ (List.mem_of_getElem? (i := 11) rfl)
theorem mw_72_12 : Cond.instanceMethod yX11_chance ∈ wsL_law := mr_72 _ (List.mem_of_getElem? (i := 12) rfl)
theorem mw_72_13 : Cond.selects RX11 yX11_chance yX11_chance ∈ wsL_law := mr_72 _ (List.mem_of_getElem? (i := 13) rfl)
theorem mw_72_14 : Cond.code yX11_chance cX11_chance 4 (some .int) ∈ wsL_law := mr_72 _ (List.mem_of_getElem? (i := 14) rfl)
theorem mw_73_22 : Cond.methodLink RL 180 yX12_chance ∈ wsL_law := mr_73 _ (List.mem_of_getElem? (i := 22) rfl)
theorem mw_73_23 : Cond.instanceMethod yX12_chance ∈ wsL_law := mr_73 _ (List.mem_of_getElem? (i := 23) rfl)
theorem mw_74_0 : Cond.selects RX12 yX12_chance yX12_chance ∈ wsL_law := mr_74 _ (List.mem_of_getElem? (i := 0) rfl)
theorem mw_74_1 : Cond.code yX12_chance cX12_chance 7 (some .int) ∈ wsL_law := mr_74 _ (List.mem_of_getElem? (i := 1) rfl)
theorem mw_75_0 : Cond.methodLink RL 181 yX11_by ∈ wsL_law := mr_75 _ (List.mem_of_getElem? (i := 0) rfl)
theorem mw_75_1 : Cond.instanceMethod yX11_by ∈ wsL_law := mr_75 _ (List.mem_of_getElem? (i := 1) rfl)
theorem mw_75_2 : Cond.selects RX11 yX11_by yX11_by ∈ wsL_law := mr_75 _ (List.mem_of_getElem? (i := 2) rfl)
theorem mw_75_3 : Cond.code yX11_by cX11_by 3 (some .int) ∈ wsL_law := mr_75 _ (List.mem_of_getElem? (i := 3) rfl)
theorem mw_75_9 : Cond.methodLink RL 184 yX12_by ∈ wsL_law := mr_75 _ (List.mem_of_getElem? (i := 9) rfl)
theorem mw_75_10 : Cond.instanceMethod yX12_by ∈ wsL_law := mr_75 _ (List.mem_of_getElem? (i := 10) rfl)
theorem mw_75_11 : Cond.selects RX12 yX12_by yX12_by ∈ wsL_law := mr_75 _ (List.mem_of_getElem? (i := 11) rfl)
theorem mw_75_12 : Cond.code yX12_by cX12_by 3 (some .int) ∈ wsL_law := mr_75 _ (List.mem_of_getElem? (i := 12) rfl)
theorem mw_75_13 : Cond.methodLink RL 185 yX11_numbers ∈ wsL_law := mr_75 _ (List.mem_of_getElem? (i := 13) rfl)
theorem mw_75_14 : Cond.instanceMethod yX11_numbers ∈ wsL_law := mr_75 _ (List.mem_of_getElem? (i := 14) rfl)
theorem mw_75_15 : Cond.selects RX11 yX11_numbers yX11_numbers ∈ wsL_law := mr_75 _ (List.mem_of_getElem? (i := 15) rfl)
theorem mw_75_16 : Cond.code yX11_numbers cX11_numbers 4 (some .int) ∈ wsL_law := mr_75 _ (List.mem_of_getElem? (i := 16) rfl)
theorem mw_75_22 : Cond.methodLink RL 188 yX12_numbers ∈ wsL_law := mr_75 _ (List.mem_of_getElem? (i := 22) rfl)
theorem mw_75_23 : Cond.instanceMethod yX12_numbers ∈ wsL_law := mr_75 _ (List.mem_of_getElem? (i := 23) rfl)
theorem mw_76_0 : Cond.selects RX12 yX12_numbers yX12_numbers ∈ wsL_law := mr_76 _ (List.mem_of_getElem? (i := 0) rfl)
theorem mw_76_1 : Cond.code yX12_numbers cX12_numbers 5 (some .int) ∈ wsL_law := mr_76 _ (List.mem_of_getElem? (i := 1) rfl)
theorem mw_76_2 : Cond.methodLink RL 191 yX11_write ∈ wsL_law := mr_76 _ (List.mem_of_getElem? (i := 2) rfl)
theorem mw_76_3 : Cond.instanceMethod yX11_write ∈ wsL_law := mr_76 _ (List.mem_of_getElem? (i := 3) rfl)
theorem mw_76_4 : Cond.selects RX11 yX11_write yX11_write ∈ wsL_law := mr_76 _ (List.mem_of_getElem? (i := 4) rfl)
theorem mw_76_5 : Cond.code yX11_write cX11_write 5 (some .long) ∈ wsL_law := mr_76 _ (List.mem_of_getElem? (i := 5) rfl)
theorem mw_76_16 : Cond.methodLink RL 195 yX12_write ∈ wsL_law := mr_76 _ (List.mem_of_getElem? (i := 16) rfl)
theorem mw_76_17 : Cond.instanceMethod yX12_write ∈ wsL_law := mr_76 _ (List.mem_of_getElem? (i := 17) rfl)
theorem mw_76_18 : Cond.selects RX12 yX12_write yX12_write ∈ wsL_law := mr_76 _ (List.mem_of_getElem? (i := 18) rfl)
theorem mw_76_19 : Cond.code yX12_write cX12_write 6 (some .long) ∈ wsL_law := mr_76 _ (List.mem_of_getElem? (i := 19) rfl)
theorem mw_77_0 : Cond.methodLink RL 196 yX11_lists ∈ wsL_law := mr_77 _ (List.mem_of_getElem? (i := 0) rfl)
theorem mw_77_1 : Cond.instanceMethod yX11_lists ∈ wsL_law := mr_77 _ (List.mem_of_getElem? (i := 1) rfl)
theorem mw_77_2 : Cond.selects RX11 yX11_lists yX11_lists ∈ wsL_law := mr_77 _ (List.mem_of_getElem? (i := 2) rfl)
theorem mw_77_3 : Cond.code yX11_lists cX11_lists 8 (some .int) ∈ wsL_law := mr_77 _ (List.mem_of_getElem? (i := 3) rfl)
theorem mw_77_5 : Cond.methodLink RL 199 yX12_lists ∈ wsL_law := mr_77 _ (List.mem_of_getElem? (i := 5) rfl)
theorem mw_77_6 : Cond.instanceMethod yX12_lists ∈ wsL_law := mr_77 _ (List.mem_of_getElem? (i := 6) rfl)
theorem mw_77_7 : Cond.selects RX12 yX12_lists yX12_lists ∈ wsL_law := mr_77 _ (List.mem_of_getElem? (i := 7) rfl)
theorem mw_77_8 : Cond.code yX12_lists cX12_lists 8 (some .int) ∈ wsL_law := mr_77 _ (List.mem_of_getElem? (i := 8) rfl)
theorem mw_77_9 : Cond.methodLink RL 200 yX11_image ∈ wsL_law := mr_77 _ (List.mem_of_getElem? (i := 9) rfl)
theorem mw_77_10 : Cond.instanceMethod yX11_image ∈ wsL_law := mr_77 _ (List.mem_of_getElem? (i := 10) rfl)
theorem mw_77_11 : Cond.selects RX11 yX11_image yX11_image ∈ wsL_law := mr_77 _ (List.mem_of_getElem? (i := 11) rfl)
theorem mw_77_12 : Cond.code yX11_image cX11_image 2 (some .int) ∈ wsL_law := mr_77 _ (List.mem_of_getElem? (i := 12) rfl)
theorem mw_77_13 : Cond.methodLink RL 203 yX12_image ∈ wsL_law := mr_77 _ (List.mem_of_getElem? (i := 13) rfl)
theorem mw_77_14 : Cond.instanceMethod yX12_image ∈ wsL_law := mr_77 _ (List.mem_of_getElem? (i := 14) rfl)
theorem mw_77_15 : Cond.selects RX12 yX12_image yX12_image ∈ wsL_law := mr_77 _ (List.mem_of_getElem? (i := 15) rfl)
theorem mw_77_16 : Cond.code yX12_image cX12_image 3 (some .int) ∈ wsL_law := mr_77 _ (List.mem_of_getElem? (i := 16) rfl)
theorem mw_77_17 : Cond.methodLink RL 204 yX11_restore ∈ wsL_law := mr_77 _ (List.mem_of_getElem? (i := 17) rfl)
theorem mw_77_18 : Cond.instanceMethod yX11_restore ∈ wsL_law := mr_77 _ (List.mem_of_getElem? (i := 18) rfl)
theorem mw_77_19 : Cond.selects RX11 yX11_restore yX11_restore ∈ wsL_law := mr_77 _ (List.mem_of_getElem? (i := 19) rfl)
theorem mw_77_20 : Cond.code yX11_restore cX11_restore 2 (some .int) ∈ wsL_law := mr_77 _ (List.mem_of_getElem? (i := 20) rfl)
theorem mw_77_21 : Cond.methodLink RL 207 yX12_restore ∈ wsL_law := mr_77 _ (List.mem_of_getElem? (i := 21) rfl)
theorem mw_77_22 : Cond.instanceMethod yX12_restore ∈ wsL_law := mr_77 _ (List.mem_of_getElem? (i := 22) rfl)
theorem mw_77_23 : Cond.selects RX12 yX12_restore yX12_restore ∈ wsL_law := mr_77 _ (List.mem_of_getElem? (i := 23) rfl)
theorem mw_78_0 : Cond.code yX12_restore cX12_restore 3 (some .int) ∈ wsL_law := mr_78 _ (List.mem_of_getElem? (i := 0) rfl)
theorem mw_78_1 : Cond.methodLink RL 208 yX11_count ∈ wsL_law := mr_78 _ (List.mem_of_getElem? (i := 1) rfl)
theorem mw_78_2 : Cond.instanceMethod yX11_count ∈ wsL_law := mr_78 _ (List.mem_of_getElem? (i := 2) rfl)
theorem mw_78_3 : Cond.selects RX11 yX11_count yX11_count ∈ wsL_law := mr_78 _ (List.mem_of_getElem? (i := 3) rfl)
theorem mw_78_4 : Cond.code yX11_count cX11_count 2 (some .int) ∈ wsL_law := mr_78 _ (List.mem_of_getElem? (i := 4) rfl)
theorem mw_78_14 : Cond.methodLink RL 211 yX12_count ∈ wsL_law := mr_78 _ (List.mem_of_getElem? (i := 14) rfl)
theorem mw_78_15 : Cond.instanceMethod yX12_count ∈ wsL_law := mr_78 _ (List.mem_of_getElem? (i := 15) rfl)
theorem mw_78_16 : Cond.selects RX12 yX12_count yX12_count ∈ wsL_law := mr_78 _ (List.mem_of_getElem? (i := 16) rfl)
theorem mw_78_17 : Cond.code yX12_count cX12_count 2 (some .int) ∈ wsL_law := mr_78 _ (List.mem_of_getElem? (i := 17) rfl)
theorem qX11_attempt : cpCal yX11_attempt cX11_attempt 6 ((some .int)) 3 := ⟨mw_69_12, mw_69_13, mw_1_2, mw_69_14, ⟨by decide, by decide, by decide⟩, by decide⟩
theorem qX11_bearers : cpCal yX11_bearers cX11_bearers 5 ((some .int)) 2 := ⟨mw_38_2, mw_38_3, mw_1_2, mw_38_4, ⟨by decide, by decide, by decide⟩, by decide⟩
theorem qX11_best : cpCal yX11_best cX11_best 4 ((some .int)) 2 := ⟨mw_72_0, mw_72_1, mw_1_2, mw_72_2, ⟨by decide, by decide, by decide⟩, by decide⟩
theorem qX11_by : cpCal yX11_by cX11_by 3 ((some .int)) 2 := ⟨mw_75_1, mw_75_2, mw_1_2, mw_75_3, ⟨by decide, by decide, by decide⟩, by decide⟩
theorem qX11_camps : cpCal yX11_camps cX11_camps 3 ((some .int)) 1 := ⟨mw_62_5, mw_62_6, mw_1_2, mw_62_7, ⟨by decide, by decide, by decide⟩, by decide⟩
theorem qX11_carry : cpCal yX11_carry cX11_carry 6 ((some .int)) 4 := ⟨mw_38_20, mw_38_21, mw_1_2, mw_38_22, ⟨by decide, by decide, by decide⟩, by decide⟩
theorem qX11_chance : cpCal yX11_chance cX11_chance 4 ((some .int)) 3 := ⟨mw_72_12, mw_72_13, mw_1_2, mw_72_14, ⟨by decide, by decide, by decide⟩, by decide⟩
theorem qX11_coin : cpCal yX11_coin cX11_coin 3 ((some .int)) 2 := ⟨mw_29_18, mw_29_19, mw_1_2, mw_29_20, ⟨by decide, by decide, by decide⟩, by decide⟩
theorem qX11_count : cpCal yX11_count cX11_count 2 ((some .int)) 1 := ⟨mw_78_2, mw_78_3, mw_1_2, mw_78_4, ⟨by decide, by decide, by decide⟩, by decide⟩
theorem qX11_far : cpCal yX11_far cX11_far 3 ((some .int)) 2 := ⟨mw_31_7, mw_31_8, mw_1_2, mw_31_9, ⟨by decide, by decide, by decide⟩, by decide⟩
theorem qX11_fault : cpCal yX11_fault cX11_fault 2 ((some .int)) 1 := ⟨mw_28_14, mw_28_15, mw_1_2, mw_28_16, ⟨by decide, by decide, by decide⟩, by decide⟩
theorem qX11_feed : cpCal yX11_feed cX11_feed 6 ((some .int)) 5 := ⟨mw_9_6, mw_9_7, mw_1_2, mw_9_8, ⟨by decide, by decide, by decide⟩, by decide⟩
theorem qX11_forces : cpCal yX11_forces cX11_forces 3 ((some .int)) 2 := ⟨mw_70_13, mw_70_14, mw_1_2, mw_70_15, ⟨by decide, by decide, by decide⟩, by decide⟩
theorem qX11_guards : cpCal yX11_guards cX11_guards 4 ((some .int)) 3 := ⟨mw_58_7, mw_58_8, mw_1_2, mw_58_9, ⟨by decide, by decide, by decide⟩, by decide⟩
theorem qX11_hour : cpCal yX11_hour cX11_hour 3 ((some .int)) 1 := ⟨mw_41_5, mw_41_6, mw_1_2, mw_41_7, ⟨by decide, by decide, by decide⟩, by decide⟩
theorem qX11_hours : cpCal yX11_hours cX11_hours 3 ((some .int)) 1 := ⟨mw_68_4, mw_68_5, mw_1_2, mw_68_6, ⟨by decide, by decide, by decide⟩, by decide⟩
theorem qX11_image : cpCal yX11_image cX11_image 2 ((some .int)) 1 := ⟨mw_77_10, mw_77_11, mw_1_2, mw_77_12, ⟨by decide, by decide, by decide⟩, by decide⟩
theorem qX11_judge : cpCal yX11_judge cX11_judge 6 ((some .int)) 2 := ⟨mw_42_13, mw_42_14, mw_1_2, mw_42_15, ⟨by decide, by decide, by decide⟩, by decide⟩
theorem qX11_lifters : cpCal yX11_lifters cX11_lifters 3 ((some .int)) 2 := ⟨mw_57_1, mw_57_2, mw_1_2, mw_57_3, ⟨by decide, by decide, by decide⟩, by decide⟩
theorem qX11_lifting : cpCal yX11_lifting cX11_lifting 6 ((some .int)) 3 := ⟨mw_60_16, mw_60_17, mw_1_2, mw_60_18, ⟨by decide, by decide, by decide⟩, by decide⟩
theorem qX11_lists : cpCal yX11_lists cX11_lists 8 ((some .int)) 3 := ⟨mw_77_1, mw_77_2, mw_1_2, mw_77_3, ⟨by decide, by decide, by decide⟩, by decide⟩
theorem qX11_numbers : cpCal yX11_numbers cX11_numbers 4 ((some .int)) 3 := ⟨mw_75_14, mw_75_15, mw_1_2, mw_75_16, ⟨by decide, by decide, by decide⟩, by decide⟩
theorem qX11_pairs : cpCal yX11_pairs cX11_pairs 2 ((some .int)) 1 := ⟨mw_54_2, mw_54_3, mw_1_2, mw_54_4, ⟨by decide, by decide, by decide⟩, by decide⟩
theorem qX11_pays : cpCal yX11_pays cX11_pays 5 ((some .int)) 3 := ⟨mw_52_15, mw_52_16, mw_1_2, mw_52_17, ⟨by decide, by decide, by decide⟩, by decide⟩
theorem qX11_peace : cpCal yX11_peace cX11_peace 1 ((some .int)) 0 := ⟨mw_63_2, mw_63_3, mw_1_2, mw_63_4, ⟨by decide, by decide, by decide⟩, by decide⟩
theorem qX11_perform : cpCal yX11_perform cX11_perform 3 ((some .int)) 1 := ⟨mw_45_20, mw_45_21, mw_1_2, mw_45_22, ⟨by decide, by decide, by decide⟩, by decide⟩
theorem qX11_person : cpCal yX11_person cX11_person 3 ((some .int)) 2 := ⟨mw_28_23, mw_29_0, mw_1_2, mw_29_1, ⟨by decide, by decide, by decide⟩, by decide⟩
theorem qX11_quarrel : cpCal yX11_quarrel cX11_quarrel 4 ((some .int)) 2 := ⟨mw_40_6, mw_40_7, mw_1_2, mw_40_8, ⟨by decide, by decide, by decide⟩, by decide⟩
theorem qX11_reach : cpCal yX11_reach cX11_reach 2 ((some .int)) 1 := ⟨mw_51_23, mw_52_0, mw_1_2, mw_52_1, ⟨by decide, by decide, by decide⟩, by decide⟩
theorem qX11_restore : cpCal yX11_restore cX11_restore 2 ((some .int)) 1 := ⟨mw_77_18, mw_77_19, mw_1_2, mw_77_20, ⟨by decide, by decide, by decide⟩, by decide⟩
theorem qX11_rests : cpCal yX11_rests cX11_rests 3 ((some .int)) 2 := ⟨mw_59_8, mw_59_9, mw_1_2, mw_59_10, ⟨by decide, by decide, by decide⟩, by decide⟩
theorem qX11_road : cpCal yX11_road cX11_road 3 ((some .int)) 2 := ⟨mw_30_14, mw_30_15, mw_1_2, mw_30_16, ⟨by decide, by decide, by decide⟩, by decide⟩
theorem qX11_rows : cpCal yX11_rows cX11_rows 4 ((some .long)) 3 := ⟨mw_51_2, mw_51_3, mw_1_2, mw_51_4, ⟨by decide, by decide, by decide⟩, by decide⟩
theorem qX11_soonest : cpCal yX11_soonest cX11_soonest 3 ((some .int)) 2 := ⟨mw_47_12, mw_47_13, mw_1_2, mw_47_14, ⟨by decide, by decide, by decide⟩, by decide⟩
theorem qX11_talk : cpCal yX11_talk cX11_talk 3 ((some .int)) 2 := ⟨mw_61_1, mw_61_2, mw_1_2, mw_61_3, ⟨by decide, by decide, by decide⟩, by decide⟩
theorem qX11_told : cpCal yX11_told cX11_told 3 ((some .int)) 1 := ⟨mw_61_21, mw_61_22, mw_1_2, mw_61_23, ⟨by decide, by decide, by decide⟩, by decide⟩
theorem qX11_undo : cpCal yX11_undo cX11_undo 2 ((some .int)) 1 := ⟨mw_41_19, mw_41_20, mw_1_2, mw_41_21, ⟨by decide, by decide, by decide⟩, by decide⟩
theorem qX11_valley : cpCal yX11_valley cX11_valley 2 ((some .int)) 1 := ⟨mw_9_22, mw_9_23, mw_1_2, mw_10_0, ⟨by decide, by decide, by decide⟩, by decide⟩
theorem qX11_way : cpCal yX11_way cX11_way 7 ((some .int)) 3 := ⟨mw_49_23, mw_50_0, mw_1_2, mw_50_1, ⟨by decide, by decide, by decide⟩, by decide⟩
theorem qX11_who : cpCal yX11_who cX11_who 5 ((some .int)) 3 := ⟨mw_67_8, mw_67_9, mw_1_2, mw_67_10, ⟨by decide, by decide, by decide⟩, by decide⟩
theorem qX11_why : cpCal yX11_why cX11_why 6 ((some .int)) 4 := ⟨mw_32_12, mw_32_13, mw_1_2, mw_32_14, ⟨by decide, by decide, by decide⟩, by decide⟩
theorem qX11_with : cpCal yX11_with cX11_with 3 ((some .int)) 2 := ⟨mw_56_12, mw_56_13, mw_1_2, mw_56_14, ⟨by decide, by decide, by decide⟩, by decide⟩
theorem qX11_worn : cpCal yX11_worn cX11_worn 6 ((some .int)) 4 := ⟨mw_37_10, mw_37_11, mw_1_2, mw_37_12, ⟨by decide, by decide, by decide⟩, by decide⟩
theorem qX11_wornBy : cpCal yX11_wornBy cX11_wornBy 4 ((some .long)) 2 := ⟨mw_63_15, mw_63_16, mw_1_2, mw_63_17, ⟨by decide, by decide, by decide⟩, by decide⟩
theorem qX11_wornFirst : cpCal yX11_wornFirst cX11_wornFirst 5 ((some .int)) 3 := ⟨mw_66_12, mw_66_13, mw_1_2, mw_66_14, ⟨by decide, by decide, by decide⟩, by decide⟩
theorem qX11_write : cpCal yX11_write cX11_write 5 ((some .long)) 3 := ⟨mw_76_3, mw_76_4, mw_1_2, mw_76_5, ⟨by decide, by decide, by decide⟩, by decide⟩
theorem qX11_year : cpCal yX11_year cX11_year 5 ((some .int)) 2 := ⟨mw_46_4, mw_46_5, mw_1_2, mw_46_6, ⟨by decide, by decide, by decide⟩, by decide⟩
theorem qX12_attempt : cpCal yX12_attempt cX12_attempt 11 ((some .int)) 3 := ⟨mw_70_5, mw_70_6, mw_1_5, mw_70_7, ⟨by decide, by decide, by decide⟩, by decide⟩
theorem qX12_bearers : cpCal yX12_bearers cX12_bearers 3 ((some .int)) 2 := ⟨mw_38_12, mw_38_13, mw_1_5, mw_38_14, ⟨by decide, by decide, by decide⟩, by decide⟩
theorem qX12_best : cpCal yX12_best cX12_best 6 ((some .int)) 2 := ⟨mw_72_8, mw_72_9, mw_1_5, mw_72_10, ⟨by decide, by decide, by decide⟩, by decide⟩
theorem qX12_by : cpCal yX12_by cX12_by 3 ((some .int)) 2 := ⟨mw_75_10, mw_75_11, mw_1_5, mw_75_12, ⟨by decide, by decide, by decide⟩, by decide⟩
theorem qX12_camps : cpCal yX12_camps cX12_camps 4 ((some .int)) 1 := ⟨mw_62_18, mw_62_19, mw_1_5, mw_62_20, ⟨by decide, by decide, by decide⟩, by decide⟩
theorem qX12_carry : cpCal yX12_carry cX12_carry 7 ((some .int)) 4 := ⟨mw_39_14, mw_39_15, mw_1_5, mw_39_16, ⟨by decide, by decide, by decide⟩, by decide⟩
theorem qX12_chance : cpCal yX12_chance cX12_chance 7 ((some .int)) 3 := ⟨mw_73_23, mw_74_0, mw_1_5, mw_74_1, ⟨by decide, by decide, by decide⟩, by decide⟩
theorem qX12_coin : cpCal yX12_coin cX12_coin 3 ((some .int)) 2 := ⟨mw_30_6, mw_30_7, mw_1_5, mw_30_8, ⟨by decide, by decide, by decide⟩, by decide⟩
theorem qX12_count : cpCal yX12_count cX12_count 2 ((some .int)) 1 := ⟨mw_78_15, mw_78_16, mw_1_5, mw_78_17, ⟨by decide, by decide, by decide⟩, by decide⟩
theorem qX12_far : cpCal yX12_far cX12_far 3 ((some .int)) 2 := ⟨mw_31_16, mw_31_17, mw_1_5, mw_31_18, ⟨by decide, by decide, by decide⟩, by decide⟩
theorem qX12_fault : cpCal yX12_fault cX12_fault 2 ((some .int)) 1 := ⟨mw_28_19, mw_28_20, mw_1_5, mw_28_21, ⟨by decide, by decide, by decide⟩, by decide⟩
theorem qX12_feed : cpCal yX12_feed cX12_feed 8 ((some .int)) 5 := ⟨mw_9_16, mw_9_17, mw_1_5, mw_9_18, ⟨by decide, by decide, by decide⟩, by decide⟩
theorem qX12_forces : cpCal yX12_forces cX12_forces 3 ((some .int)) 2 := ⟨mw_71_8, mw_71_9, mw_1_5, mw_71_10, ⟨by decide, by decide, by decide⟩, by decide⟩
theorem qX12_guards : cpCal yX12_guards cX12_guards 6 ((some .int)) 3 := ⟨mw_59_0, mw_59_1, mw_1_5, mw_59_2, ⟨by decide, by decide, by decide⟩, by decide⟩
theorem qX12_hour : cpCal yX12_hour cX12_hour 2 ((some .int)) 1 := ⟨mw_41_14, mw_41_15, mw_1_5, mw_41_16, ⟨by decide, by decide, by decide⟩, by decide⟩
theorem qX12_hours : cpCal yX12_hours cX12_hours 3 ((some .int)) 1 := ⟨mw_68_23, mw_69_0, mw_1_5, mw_69_1, ⟨by decide, by decide, by decide⟩, by decide⟩
theorem qX12_image : cpCal yX12_image cX12_image 3 ((some .int)) 1 := ⟨mw_77_14, mw_77_15, mw_1_5, mw_77_16, ⟨by decide, by decide, by decide⟩, by decide⟩
theorem qX12_judge : cpCal yX12_judge cX12_judge 8 ((some .int)) 2 := ⟨mw_44_5, mw_44_6, mw_1_5, mw_44_7, ⟨by decide, by decide, by decide⟩, by decide⟩
theorem qX12_lifters : cpCal yX12_lifters cX12_lifters 7 ((some .int)) 2 := ⟨mw_58_0, mw_58_1, mw_1_5, mw_58_2, ⟨by decide, by decide, by decide⟩, by decide⟩
theorem qX12_lifting : cpCal yX12_lifting cX12_lifting 6 ((some .int)) 3 := ⟨mw_60_21, mw_60_22, mw_1_5, mw_60_23, ⟨by decide, by decide, by decide⟩, by decide⟩
theorem qX12_lists : cpCal yX12_lists cX12_lists 8 ((some .int)) 3 := ⟨mw_77_6, mw_77_7, mw_1_5, mw_77_8, ⟨by decide, by decide, by decide⟩, by decide⟩
theorem qX12_numbers : cpCal yX12_numbers cX12_numbers 5 ((some .int)) 3 := ⟨mw_75_23, mw_76_0, mw_1_5, mw_76_1, ⟨by decide, by decide, by decide⟩, by decide⟩
theorem qX12_pairs : cpCal yX12_pairs cX12_pairs 2 ((some .int)) 1 := ⟨mw_55_16, mw_55_17, mw_1_5, mw_55_18, ⟨by decide, by decide, by decide⟩, by decide⟩
theorem qX12_pays : cpCal yX12_pays cX12_pays 11 ((some .int)) 3 := ⟨mw_53_17, mw_53_18, mw_1_5, mw_53_19, ⟨by decide, by decide, by decide⟩, by decide⟩
theorem qX12_peace : cpCal yX12_peace cX12_peace 5 ((some .int)) 0 := ⟨mw_63_11, mw_63_12, mw_1_5, mw_63_13, ⟨by decide, by decide, by decide⟩, by decide⟩
theorem qX12_perform : cpCal yX12_perform cX12_perform 4 ((some .int)) 1 := ⟨mw_46_0, mw_46_1, mw_1_5, mw_46_2, ⟨by decide, by decide, by decide⟩, by decide⟩
theorem qX12_person : cpCal yX12_person cX12_person 3 ((some .int)) 2 := ⟨mw_29_10, mw_29_11, mw_1_5, mw_29_12, ⟨by decide, by decide, by decide⟩, by decide⟩
theorem qX12_quarrel : cpCal yX12_quarrel cX12_quarrel 3 ((some .int)) 2 := ⟨mw_40_17, mw_40_18, mw_1_5, mw_40_19, ⟨by decide, by decide, by decide⟩, by decide⟩
theorem qX12_reach : cpCal yX12_reach cX12_reach 6 ((some .int)) 1 := ⟨mw_52_11, mw_52_12, mw_1_5, mw_52_13, ⟨by decide, by decide, by decide⟩, by decide⟩
theorem qX12_restore : cpCal yX12_restore cX12_restore 3 ((some .int)) 1 := ⟨mw_77_22, mw_77_23, mw_1_5, mw_78_0, ⟨by decide, by decide, by decide⟩, by decide⟩
theorem qX12_rests : cpCal yX12_rests cX12_rests 7 ((some .int)) 2 := ⟨mw_60_8, mw_60_9, mw_1_5, mw_60_10, ⟨by decide, by decide, by decide⟩, by decide⟩
theorem qX12_road : cpCal yX12_road cX12_road 3 ((some .int)) 2 := ⟨mw_30_22, mw_30_23, mw_1_5, mw_31_0, ⟨by decide, by decide, by decide⟩, by decide⟩
theorem qX12_rows : cpCal yX12_rows cX12_rows 7 ((some .long)) 3 := ⟨mw_51_16, mw_51_17, mw_1_5, mw_51_18, ⟨by decide, by decide, by decide⟩, by decide⟩
theorem qX12_soonest : cpCal yX12_soonest cX12_soonest 3 ((some .int)) 2 := ⟨mw_49_3, mw_49_4, mw_1_5, mw_49_5, ⟨by decide, by decide, by decide⟩, by decide⟩
theorem qX12_talk : cpCal yX12_talk cX12_talk 5 ((some .int)) 2 := ⟨mw_61_13, mw_61_14, mw_1_5, mw_61_15, ⟨by decide, by decide, by decide⟩, by decide⟩
theorem qX12_told : cpCal yX12_told cX12_told 4 ((some .int)) 1 := ⟨mw_62_1, mw_62_2, mw_1_5, mw_62_3, ⟨by decide, by decide, by decide⟩, by decide⟩
theorem qX12_undo : cpCal yX12_undo cX12_undo 3 ((some .int)) 1 := ⟨mw_42_8, mw_42_9, mw_1_5, mw_42_10, ⟨by decide, by decide, by decide⟩, by decide⟩
theorem qX12_valley : cpCal yX12_valley cX12_valley 3 ((some .int)) 1 := ⟨mw_23_6, mw_23_7, mw_1_5, mw_23_8, ⟨by decide, by decide, by decide⟩, by decide⟩
theorem qX12_way : cpCal yX12_way cX12_way 4 ((some .int)) 3 := ⟨mw_50_11, mw_50_12, mw_1_5, mw_50_13, ⟨by decide, by decide, by decide⟩, by decide⟩
theorem qX12_who : cpCal yX12_who cX12_who 11 ((some .int)) 3 := ⟨mw_68_0, mw_68_1, mw_1_5, mw_68_2, ⟨by decide, by decide, by decide⟩, by decide⟩
theorem qX12_why : cpCal yX12_why cX12_why 5 ((some .int)) 4 := ⟨mw_35_9, mw_35_10, mw_1_5, mw_35_11, ⟨by decide, by decide, by decide⟩, by decide⟩
theorem qX12_with : cpCal yX12_with cX12_with 6 ((some .int)) 2 := ⟨mw_56_17, mw_56_18, mw_1_5, mw_56_19, ⟨by decide, by decide, by decide⟩, by decide⟩
theorem qX12_worn : cpCal yX12_worn cX12_worn 6 ((some .int)) 4 := ⟨mw_37_14, mw_37_15, mw_1_5, mw_37_16, ⟨by decide, by decide, by decide⟩, by decide⟩
theorem qX12_wornBy : cpCal yX12_wornBy cX12_wornBy 4 ((some .long)) 2 := ⟨mw_65_10, mw_65_11, mw_1_5, mw_65_12, ⟨by decide, by decide, by decide⟩, by decide⟩
theorem qX12_wornFirst : cpCal yX12_wornFirst cX12_wornFirst 8 ((some .int)) 3 := ⟨mw_67_0, mw_67_1, mw_1_5, mw_67_2, ⟨by decide, by decide, by decide⟩, by decide⟩
theorem qX12_write : cpCal yX12_write cX12_write 6 ((some .long)) 3 := ⟨mw_76_17, mw_76_18, mw_1_5, mw_76_19, ⟨by decide, by decide, by decide⟩, by decide⟩
theorem qX12_year : cpCal yX12_year cX12_year 6 ((some .int)) 2 := ⟨mw_46_21, mw_46_22, mw_1_5, mw_46_23, ⟨by decide, by decide, by decide⟩, by decide⟩
/-! the law's frame: 174 cells of 14728 slots are made -/
section CPL
variable {p : Program} {l : Launch} {e : Env} {s : State} {m : MethodId} {below : List Frame} {meth : Method} {c : Code} {b L : Nat} {xs : Nat → Int32} {w : cpW} {A : Nat → Prop}
def cpJL (p : Program) (l : Launch) (e : Env) (s : State) (m : MethodId) (below : List Frame) (meth : Method) (c : Code) (b : Nat) (w : cpW) (A : Nat → Prop) (pc : Nat) (lv : List (Option Value)) (st : List Value) (S : cpS) : Prop :=
  ∀ (H : Heap) (locs : List Loc) (ls : Array Slot), va_P w.1 vwCl (cpWd w S) H → va_S A s.heap H locs → cpLv ls 4 lv → W p l e room_1 s m #[Value.ref b] below meth c H locs 174 14728 (lw_Z below #[Value.ref b] s) (F0 m pc ls st)
def cpCL (p : Program) (s : State) (m : MethodId) (meth : Method) (c : Code) (b L : Nat) (xs : Nat → Int32) (w : cpW) (A : Nat → Prop) : Prop :=
  p.tables.exec = Jvm.exec ∧ c.code = cL_law ∧ c.maxLocals = 4 ∧ s.vm.findClass RL = some m.cls ∧ (∀ q ∈ wsL_law, q.before #[Value.ref b] s = true) ∧ cpKn w A s ∧ cpDist w A ∧ meth.locks = false ∧ meth.sig.returnType = ret ∧ va_X b L xs s s.heap ∧ b < s.heap.size ∧ ¬ A b ∧ A = (fun q => s.heap.size ≤ q) ∧ L ≤ 3072
theorem cl_aload (C : cpCL p s m meth c b L xs w A) {pc : Nat} {lv : List (Option Value)} {st : List Value} {S : cpS} {k : Fin 4} {i : Nat} {x : Nat} (hdg : decode cL_law pc = .ok (.aload_n k, 1)) (hi : (k : Nat) = i) (hl : lv[i]? = some (some (.ref x))) (kk : cpJL p l e s m below meth c b w A (pc + 1) lv (.ref x :: st) S) : cpJL p l e s m below meth c b w A pc lv st S :=
  fun H locs ls hP hS hL => lv_aload_n C.1 C.2.1 hdg hi (hL.2.2 i _ hl) (kk H locs ls hP hS hL)
theorem cl_iload (C : cpCL p s m meth c b L xs w A) {pc : Nat} {lv : List (Option Value)} {st : List Value} {S : cpS} {k : Fin 4} {i : Nat} {x : Int32} (hdg : decode cL_law pc = .ok (.iload_n k, 1)) (hi : (k : Nat) = i) (hl : lv[i]? = some (some (.int x))) (kk : cpJL p l e s m below meth c b w A (pc + 1) lv (.int x :: st) S) : cpJL p l e s m below meth c b w A pc lv st S :=
  fun H locs ls hP hS hL => lv_iload_n C.1 C.2.1 hdg hi (hL.2.2 i _ hl) (kk H locs ls hP hS hL)
theorem cl_iconst (C : cpCL p s m meth c b L xs w A) {pc : Nat} {lv : List (Option Value)} {st : List Value} {S : cpS} {n : Int} {v : Int32} (hdg : decode cL_law pc = .ok (.iconst n, 1)) (hv : Int32.ofInt n = v) (kk : cpJL p l e s m below meth c b w A (pc + 1) lv (.int v :: st) S) : cpJL p l e s m below meth c b w A pc lv st S :=
  fun H locs ls hP hS hL => lv_iconst C.1 C.2.1 hdg hv (kk H locs ls hP hS hL)
theorem cl_bipush (C : cpCL p s m meth c b L xs w A) {pc : Nat} {lv : List (Option Value)} {st : List Value} {S : cpS} {n : Int} {v : Int32} (hdg : decode cL_law pc = .ok (.bipush n, 2)) (hv : (Int8.ofInt n).toInt32 = v) (kk : cpJL p l e s m below meth c b w A (pc + 2) lv (.int v :: st) S) : cpJL p l e s m below meth c b w A pc lv st S :=
  fun H locs ls hP hS hL => lv_bipush C.1 C.2.1 hdg hv (kk H locs ls hP hS hL)
theorem cl_iadd (C : cpCL p s m meth c b L xs w A) {pc : Nat} {lv : List (Option Value)} {st : List Value} {S : cpS} {x y z : Int32} (hdg : decode cL_law pc = .ok (.iadd, 1)) (hz : x + y = z) (kk : cpJL p l e s m below meth c b w A (pc + 1) lv (.int z :: st) S) : cpJL p l e s m below meth c b w A pc lv (.int y :: .int x :: st) S :=
  fun H locs ls hP hS hL => lv_iadd C.1 C.2.1 hdg (hz ▸ kk H locs ls hP hS hL)
theorem cl_isub (C : cpCL p s m meth c b L xs w A) {pc : Nat} {lv : List (Option Value)} {st : List Value} {S : cpS} {x y : Int32} (hdg : decode cL_law pc = .ok (.isub, 1)) (kk : cpJL p l e s m below meth c b w A (pc + 1) lv (.int (x - y) :: st) S) : cpJL p l e s m below meth c b w A pc lv (.int y :: .int x :: st) S :=
  fun H locs ls hP hS hL => lv_isub C.1 C.2.1 hdg (kk H locs ls hP hS hL)
theorem cl_iand (C : cpCL p s m meth c b L xs w A) {pc : Nat} {lv : List (Option Value)} {st : List Value} {S : cpS} {x y : Int32} (hdg : decode cL_law pc = .ok (.iand, 1)) (kk : cpJL p l e s m below meth c b w A (pc + 1) lv (.int (x &&& y) :: st) S) : cpJL p l e s m below meth c b w A pc lv (.int y :: .int x :: st) S :=
  fun H locs ls hP hS hL => lv_iand C.1 C.2.1 hdg (kk H locs ls hP hS hL)
theorem cl_i2l (C : cpCL p s m meth c b L xs w A) {pc : Nat} {lv : List (Option Value)} {st : List Value} {S : cpS} {x : Int32} (hdg : decode cL_law pc = .ok (.i2l, 1)) (kk : cpJL p l e s m below meth c b w A (pc + 1) lv (.long x.toInt64 :: st) S) : cpJL p l e s m below meth c b w A pc lv (.int x :: st) S :=
  fun H locs ls hP hS hL => lv_i2l C.1 C.2.1 hdg rfl (kk H locs ls hP hS hL)
theorem cl_lshl (C : cpCL p s m meth c b L xs w A) {pc : Nat} {lv : List (Option Value)} {st : List Value} {S : cpS} {x : Int64} {y : Int32} (hdg : decode cL_law pc = .ok (.lshl, 1)) (kk : cpJL p l e s m below meth c b w A (pc + 1) lv (.long (x <<< (y.toInt64 &&& 63)) :: st) S) : cpJL p l e s m below meth c b w A pc lv (.int y :: .long x :: st) S :=
  fun H locs ls hP hS hL => lv_lshl C.1 C.2.1 hdg rfl (kk H locs ls hP hS hL)
theorem cl_land (C : cpCL p s m meth c b L xs w A) {pc : Nat} {lv : List (Option Value)} {st : List Value} {S : cpS} {x y : Int64} (hdg : decode cL_law pc = .ok (.land, 1)) (kk : cpJL p l e s m below meth c b w A (pc + 1) lv (.long (x &&& y) :: st) S) : cpJL p l e s m below meth c b w A pc lv (.long y :: .long x :: st) S :=
  fun H locs ls hP hS hL => lv_land C.1 C.2.1 hdg (kk H locs ls hP hS hL)
theorem cl_lor (C : cpCL p s m meth c b L xs w A) {pc : Nat} {lv : List (Option Value)} {st : List Value} {S : cpS} {x y : Int64} (hdg : decode cL_law pc = .ok (.lor, 1)) (kk : cpJL p l e s m below meth c b w A (pc + 1) lv (.long (x ||| y) :: st) S) : cpJL p l e s m below meth c b w A pc lv (.long y :: .long x :: st) S :=
  fun H locs ls hP hS hL => lv_lor C.1 C.2.1 hdg (kk H locs ls hP hS hL)
theorem cl_ldc2 (C : cpCL p s m meth c b L xs w A) {pc : Nat} {lv : List (Option Value)} {st : List Value} {S : cpS} {i : Nat} {v : Int64} (hc : Cond.constantLong RL i v ∈ wsL_law) (hdg : decode cL_law pc = .ok (.ldc2_w i, 3)) (kk : cpJL p l e s m below meth c b w A (pc + 3) lv (.long v :: st) S) : cpJL p l e s m below meth c b w A pc lv st S :=
  fun H locs ls hP hS hL => lv_ldc2 C.1 C.2.1 C.2.2.2.1 (C.2.2.2.2.1 _ hc) hdg (kk H locs ls hP hS hL)
theorem cl_len (C : cpCL p s m meth c b L xs w A) {pc : Nat} {lv : List (Option Value)} {st : List Value} {S : cpS} (hdg : decode cL_law pc = .ok (.arraylength, 1)) (kk : cpJL p l e s m below meth c b w A (pc + 1) lv (.int (nI L) :: st) S) : cpJL p l e s m below meth c b w A pc lv (.ref b :: st) S :=
  fun H locs ls hP hS hL => va_slen C.1 C.2.1 C.2.2.2.2.2.2.2.2.2.1 C.2.2.2.2.2.2.2.2.2.2.1 C.2.2.2.2.2.2.2.2.2.2.2.1 hS hdg (kk H locs ls hP hS hL)
theorem cl_sld (C : cpCL p s m meth c b L xs w A) {pc : Nat} {lv : List (Option Value)} {st : List Value} {S : cpS} {i : Nat} (hi : i < L) (hdg : decode cL_law pc = .ok (.iaload, 1)) (kk : cpJL p l e s m below meth c b w A (pc + 1) lv (.int (xs i) :: st) S) : cpJL p l e s m below meth c b w A pc lv (.int (nI i) :: .ref b :: st) S := fun H locs ls hP hS hL => by
  have hL2 : L ≤ 3072 := C.2.2.2.2.2.2.2.2.2.2.2.2.2
  refine va_sld C.1 C.2.1 C.2.2.2.2.2.2.2.2.2.1 C.2.2.2.2.2.2.2.2.2.2.1 C.2.2.2.2.2.2.2.2.2.2.2.1 hS (vp_in_nI hi (by omega)) hdg ?_
  rw [nI_clamp (by omega)]
  exact kk H locs ls hP hS hL
theorem cl_arg (C : cpCL p s m meth c b L xs w A) {pc : Nat} {lv : List (Option Value)} {st : List Value} {S : cpS} {i j : Nat} {jj : Int} (hi : i + j < L) (hl : lv[0]? = some (some (.ref b))) (hl3 : lv[3]? = some (some (.int (nI i)))) (hj : Int32.ofInt jj = nI j) (d1 : decode cL_law pc = .ok (.aload_n 0, 1)) (d2 : decode cL_law (pc + 1) = .ok (.iload_n 3, 1)) (d3 : decode cL_law (pc + 1 + 1) = .ok (.iconst jj, 1)) (d4 : decode cL_law (pc + 1 + 1 + 1) = .ok (.iadd, 1)) (d5 : decode cL_law (pc + 1 + 1 + 1 + 1) = .ok (.iaload, 1)) (kk : cpJL p l e s m below meth c b w A (pc + 1 + 1 + 1 + 1 + 1) lv (.int (xs (i + j)) :: st) S) : cpJL p l e s m below meth c b w A pc lv st S :=
  cl_aload C d1 rfl hl (cl_iload C d2 rfl hl3 (cl_iconst C d3 hj (cl_iadd C d4 (nI_add i j) (cl_sld C hi d5 kk))))
theorem cl_goto (C : cpCL p s m meth c b L xs w A) {pc : Nat} {lv : List (Option Value)} {st : List Value} {S : cpS} {off : Int} {tgt : Nat} (hdg : decode cL_law pc = .ok (.goto off, 3)) (ht : (pc : Int) + off = (tgt : Int)) (kk : cpJL p l e s m below meth c b w A tgt lv st S) : cpJL p l e s m below meth c b w A pc lv st S := fun H locs ls hP hS hL => lv_goto C.1 C.2.1 hdg ht (kk H locs ls hP hS hL)
theorem cl_eq (C : cpCL p s m meth c b L xs w A) {pc : Nat} {lv : List (Option Value)} {st : List Value} {S : cpS} {x : Int32} {off : Int} {tgt : Nat} (hdg : decode cL_law pc = .ok (.if_icmp .eq off, 3)) (ht : (pc : Int) + off = (tgt : Int)) (kk : cpJL p l e s m below meth c b w A tgt lv st S) : cpJL p l e s m below meth c b w A pc lv (.int x :: .int x :: st) S := fun H locs ls hP hS hL => lv_icmp_eq C.1 C.2.1 hdg ht (fun _ => kk H locs ls hP hS hL) (fun h => absurd rfl h)
theorem cl_leq (C : cpCL p s m meth c b L xs w A) {pc : Nat} {lv : List (Option Value)} {st : List Value} {S : cpS} {x : Int64} {off : Int} {tgt : Nat} (hdc : decode cL_law pc = .ok (.lcmp, 1)) (hdg : decode cL_law (pc + 1) = .ok (.ifCond .eq off, 3)) (ht : ((pc + 1 : Nat) : Int) + off = (tgt : Int)) (kk : cpJL p l e s m below meth c b w A tgt lv st S) : cpJL p l e s m below meth c b w A pc lv (.long x :: .long x :: st) S := fun H locs ls hP hS hL => W.lcmp C.1 C.2.1 hdc (by
  have e : lg_cmp x x = 0 := by
    unfold lg_cmp
    rw [if_neg (by rw [gt_iff_lt, Int64.lt_iff_toInt_lt]; omega), if_pos rfl]
  rw [e]
  exact lv_if_eq C.1 C.2.1 hdg ht (fun _ => kk H locs ls hP hS hL) (fun h => absurd rfl h))
theorem cl_iinc (C : cpCL p s m meth c b L xs w A) {pc : Nat} {lv : List (Option Value)} {st : List Value} {S : cpS} {i : Nat} {n : Int} {x v : Int32} {lv' : List (Option Value)} (hdg : decode cL_law pc = .ok (.iinc i n, 3)) (hx : lv[i]? = some (some (.int x))) (hv : x + Int32.ofInt n = v) (hn : i < 4) (ho : cpOk lv i = true) (hl : lv.set i (some (.int v)) = lv') (kk : cpJL p l e s m below meth c b w A (pc + 3) lv' st S) : cpJL p l e s m below meth c b w A pc lv st S := fun H locs ls hP hS hL => by
  obtain ⟨k, hk⟩ := List.mem_iff_getElem?.mp (cpEn_mem.mpr ⟨i, by simp, hx⟩ : (i, Value.int x) ∈ cpEn 0 lv)
  exact lv_iinc C.1 C.2.1 hdg hL.has hk hv hn rfl (fun ls h => kk H locs ls hP hS (hl ▸ cpLv.set1 h ho))
theorem cl_gt (C : cpCL p s m meth c b L xs w A) {pc : Nat} {lv : List (Option Value)} {st : List Value} {S : cpS} {x y : Int32} {off : Int} {tgt : Nat} (hdg : decode cL_law pc = .ok (.if_icmp .gt off, 3)) (ht : (pc : Int) + off = (tgt : Int)) (kt : y < x → cpJL p l e s m below meth c b w A tgt lv st S) (kf : ¬ y < x → cpJL p l e s m below meth c b w A (pc + 3) lv st S) : cpJL p l e s m below meth c b w A pc lv (.int y :: .int x :: st) S := fun H locs ls hP hS hL => lv_icmp_gt C.1 C.2.1 hdg ht (fun h => kt h H locs ls hP hS hL) (fun h => kf h H locs ls hP hS hL)
theorem cl_tabIn (C : cpCL p s m meth c b L xs w A) {pc : Nat} {lv : List (Option Value)} {st : List Value} {S : cpS} {dflt lo hi : Int} {offs : Array Int} {len : Nat} {x : Int32} {off : Int} {tgt : Nat} (hdg : decode cL_law pc = .ok (.tableswitch dflt lo hi offs, len)) (h1 : ¬ x.toInt < lo) (h2 : ¬ hi < x.toInt) (ho : offs[(x.toInt - lo).toNat]? = some off) (ht : (pc : Int) + off = (tgt : Int)) (kk : cpJL p l e s m below meth c b w A tgt lv st S) : cpJL p l e s m below meth c b w A pc lv (.int x :: st) S := fun H locs ls hP hS hL => lv_tableIn C.1 C.2.1 hdg h1 h2 ho ht (kk H locs ls hP hS hL)
theorem cl_tabOut (C : cpCL p s m meth c b L xs w A) {pc : Nat} {lv : List (Option Value)} {st : List Value} {S : cpS} {dflt lo hi : Int} {offs : Array Int} {len : Nat} {x : Int32} {tgt : Nat} (hdg : decode cL_law pc = .ok (.tableswitch dflt lo hi offs, len)) (h : x.toInt < lo ∨ hi < x.toInt) (ht : (pc : Int) + dflt = (tgt : Int)) (kk : cpJL p l e s m below meth c b w A tgt lv st S) : cpJL p l e s m below meth c b w A pc lv (.int x :: st) S := fun H locs ls hP hS hL => lv_tableOut C.1 C.2.1 hdg h ht (kk H locs ls hP hS hL)
theorem cl_end (C : cpCL p s m meth c b L xs w A) {pc : Nat} {lv : List (Option Value)} {S : cpS} (hdc : decode cL_law pc = .ok (.iconst 1, 1)) (hdg : decode cL_law (pc + 1) = .ok (.ireturn, 1)) : cpJL p l e s m below meth c b w A pc lv [] S := fun H locs ls hP hS hL => by
  refine lv_iconst (v := 1) C.1 C.2.1 hdc (by decide) ?_
  have hA : A = (fun q => s.heap.size ≤ q) := C.2.2.2.2.2.2.2.2.2.2.2.2.1
  refine va_forget (fun q hq => by have := hS.2.2 q hq; rw [hA] at this; exact this) ?_
  refine W.widen (k := 600000) (n := 7302250) (by decide) (by decide) ?_
  exact lw_ret C.1 C.2.1 C.2.2.2.2.2.2.2.2.1 C.2.2.2.2.2.2.2.1 hdg
theorem cl_calli (C : cpCL p s m meth c b L xs w A) {pc : Nat} {lv : List (Option Value)} {st : List Value} {S : cpS} {y : MethodName} {bb : ByteArray} {mL n idx d k ci Nf : Nat} {ret : Option FieldType} {As rest : List Value} {x : Int32} {S' : cpS} {fs : List (Option Nat)} {Tt : u_T} (hq : cpCal y bb mL ret n) (hl : Cond.methodLink RL idx y ∈ wsL_law) (hO : cpO k 0 ci fs) (hcl : vwCl[ci]? = some (y.cls, Tt, Nf)) (hst : st = As.reverse ++ .ref (w.2.1 k) :: rest) (hn : As.length = n) (hW : (rest.map fun v => v.category).sum ≤ 8) (hd : d ≤ 1000) (hdg : decode cL_law pc = .ok (.invokevirtual idx, 3)) (hM : cpMi l y bb mL ret d w A (.ref (w.2.1 k) :: As) S (x, S')) (kk : cpJL p l e s m below meth c b w A (pc + 3) lv (.int x :: rest) S') : cpJL p l e s m below meth c b w A pc lv st S := fun H locs ls hP hS hL => by
  have hR : (cpRm d).frames + 1 ≤ room_1.frames ∧ 8 + (mL + 11) + (cpRm d).locals ≤ room_1.locals := ⟨by show d + 1 ≤ 2048; omega, by have := hq.2.2.2.2.2; show 8 + (mL + 11) + 41 * d ≤ 84000; omega⟩
  refine va_calli (va_runV (As := As) (rest := rest) ⟨C.1, C.2.1, C.2.2.1, C.2.2.2.1, C.2.2.2.2.1⟩ hM (cwV n C.2.2.2.2.1 (cpGV hq hl) rfl rfl rfl ⟨rfl, hq.2.2.2.2.1⟩ hR) ⟨cpBlind _ w A S, va_recv C.2.2.2.2.2.1.1 hP hcl (hO.obj w S), fun U hU hW => ⟨rfl, by rw [hU]; exact hP, C.2.2.2.2.2.1.call hS hU hW, C.2.2.2.2.2.2.1⟩⟩ rfl hn hL.1 hst (lv_room hW) hdg ⟨by decide, by decide⟩) hS (fun q _ h => h) (fun q h => h) (fun r u t H1 locs1 ht hvm hw hB _ _ hS1 => ?_)
  cases hw
  obtain ⟨hP1, -, -⟩ := hB
  rw [ht] at hP1
  exact kk H1 locs1 ls hP1 hS1 hL
theorem cl_calll (C : cpCL p s m meth c b L xs w A) {pc : Nat} {lv : List (Option Value)} {st : List Value} {S : cpS} {y : MethodName} {bb : ByteArray} {mL n idx d k ci Nf : Nat} {ret : Option FieldType} {As rest : List Value} {x : Int64} {S' : cpS} {fs : List (Option Nat)} {Tt : u_T} (hq : cpCal y bb mL ret n) (hl : Cond.methodLink RL idx y ∈ wsL_law) (hO : cpO k 0 ci fs) (hcl : vwCl[ci]? = some (y.cls, Tt, Nf)) (hst : st = As.reverse ++ .ref (w.2.1 k) :: rest) (hn : As.length = n) (hW : (rest.map fun v => v.category).sum ≤ 8) (hd : d ≤ 1000) (hdg : decode cL_law pc = .ok (.invokevirtual idx, 3)) (hM : cpMl l y bb mL ret d w A (.ref (w.2.1 k) :: As) S (x, S')) (kk : cpJL p l e s m below meth c b w A (pc + 3) lv (.long x :: rest) S') : cpJL p l e s m below meth c b w A pc lv st S := fun H locs ls hP hS hL => by
  have hR : (cpRm d).frames + 1 ≤ room_1.frames ∧ 8 + (mL + 11) + (cpRm d).locals ≤ room_1.locals := ⟨by show d + 1 ≤ 2048; omega, by have := hq.2.2.2.2.2; show 8 + (mL + 11) + 41 * d ≤ 84000; omega⟩
  refine va_calll (va_runV (As := As) (rest := rest) ⟨C.1, C.2.1, C.2.2.1, C.2.2.2.1, C.2.2.2.2.1⟩ hM (cwV n C.2.2.2.2.1 (cpGV hq hl) rfl rfl rfl ⟨rfl, hq.2.2.2.2.1⟩ hR) ⟨cpBlind _ w A S, va_recv C.2.2.2.2.2.1.1 hP hcl (hO.obj w S), fun U hU hW => ⟨rfl, by rw [hU]; exact hP, C.2.2.2.2.2.1.call hS hU hW, C.2.2.2.2.2.2.1⟩⟩ rfl hn hL.1 hst (lv_room hW) hdg ⟨by decide, by decide⟩) hS (fun q _ h => h) (fun q h => h) (fun r u t H1 locs1 ht hvm hw hB _ _ hS1 => ?_)
  cases hw
  obtain ⟨hP1, -, -⟩ := hB
  rw [ht] at hP1
  exact kk H1 locs1 ls hP1 hS1 hL
end CPL
def cpQ_feed (Rl : cpS → Prop) : Prop := ∀ (x1 : Int32) (x2 : Int32) (x3 : Int32) (x4 : Int32) (x5 : Int32) (S : cpS), Rl S → ∃ (r : Int32) (S1 S2 : cpS), fX11_feed x1 x2 x3 x4 x5 S = some (r, S1) ∧ fX12_feed x1 x2 x3 x4 x5 S1 = some (r, S2) ∧ Rl S2
def cpQ_valley (Rl : cpS → Prop) : Prop := ∀ (x1 : Int32) (S : cpS), Rl S → ∃ (r : Int32) (S1 S2 : cpS), fX11_valley x1 S = some (r, S1) ∧ fX12_valley x1 S1 = some (r, S2) ∧ Rl S2
def cpQ_fault (Rl : cpS → Prop) : Prop := ∀ (x1 : Int32) (S : cpS), Rl S → ∃ (r : Int32) (S1 S2 : cpS), fX11_fault x1 S = some (r, S1) ∧ fX12_fault x1 S1 = some (r, S2) ∧ Rl S2
def cpQ_person (Rl : cpS → Prop) : Prop := ∀ (x1 : Int32) (x2 : Int32) (S : cpS), Rl S → ∃ (r : Int32) (S1 S2 : cpS), fX11_person x1 x2 S = some (r, S1) ∧ fX12_person x1 x2 S1 = some (r, S2) ∧ Rl S2
def cpQ_coin (Rl : cpS → Prop) : Prop := ∀ (x1 : Int32) (x2 : Int32) (S : cpS), Rl S → ∃ (r : Int32) (S1 S2 : cpS), fX11_coin x1 x2 S = some (r, S1) ∧ fX12_coin x1 x2 S1 = some (r, S2) ∧ Rl S2
def cpQ_road (Rl : cpS → Prop) : Prop := ∀ (x1 : Int32) (x2 : Int32) (S : cpS), Rl S → ∃ (r : Int32) (S1 S2 : cpS), fX11_road x1 x2 S = some (r, S1) ∧ fX12_road x1 x2 S1 = some (r, S2) ∧ Rl S2
def cpQ_far (Rl : cpS → Prop) : Prop := ∀ (x1 : Int32) (x2 : Int32) (S : cpS), Rl S → ∃ (r : Int32) (S1 S2 : cpS), fX11_far x1 x2 S = some (r, S1) ∧ fX12_far x1 x2 S1 = some (r, S2) ∧ Rl S2
def cpQ_why (Rl : cpS → Prop) : Prop := ∀ (x1 : Int32) (x2 : Int32) (x3 : Int32) (x4 : Int32) (S : cpS), Rl S → ∃ (r : Int32) (S1 S2 : cpS), fX11_why x1 x2 x3 x4 S = some (r, S1) ∧ fX12_why x1 x2 x3 x4 S1 = some (r, S2) ∧ Rl S2
def cpQ_worn (Rl : cpS → Prop) : Prop := ∀ (x1 : Int32) (x2 : Int32) (x3 : Int32) (x4 : Int32) (S : cpS), Rl S → ∃ (r : Int32) (S1 S2 : cpS), fX11_worn x1 x2 x3 x4 S = some (r, S1) ∧ fX12_worn x1 x2 x3 x4 S1 = some (r, S2) ∧ Rl S2
def cpQ_bearers (Rl : cpS → Prop) : Prop := ∀ (x1 : Int32) (x2 : Int32) (S : cpS), Rl S → ∃ (r : Int32) (S1 S2 : cpS), fX11_bearers x1 x2 S = some (r, S1) ∧ fX12_bearers x1 x2 S1 = some (r, S2) ∧ Rl S2
def cpQ_carry (Rl : cpS → Prop) : Prop := ∀ (x1 : Int32) (x2 : Int32) (x3 : Int32) (x4 : Int32) (S : cpS), Rl S → ∃ (r : Int32) (S1 S2 : cpS), fX11_carry x1 x2 x3 x4 S = some (r, S1) ∧ fX12_carry x1 x2 x3 x4 S1 = some (r, S2) ∧ Rl S2
def cpQ_quarrel (Rl : cpS → Prop) : Prop := ∀ (x1 : Int32) (x2 : Int32) (S : cpS), Rl S → ∃ (r : Int32) (S1 S2 : cpS), fX11_quarrel x1 x2 S = some (r, S1) ∧ fX12_quarrel x1 x2 S1 = some (r, S2) ∧ Rl S2
def cpQ_hour (Rl : cpS → Prop) : Prop := ∀ (x1 : Int32) (S : cpS), Rl S → ∃ (r : Int32) (S1 S2 : cpS), fX11_hour x1 S = some (r, S1) ∧ fX12_hour x1 S1 = some (r, S2) ∧ Rl S2
def cpQ_undo (Rl : cpS → Prop) : Prop := ∀ (x1 : Int32) (S : cpS), Rl S → ∃ (r : Int32) (S1 S2 : cpS), fX11_undo x1 S = some (r, S1) ∧ fX12_undo x1 S1 = some (r, S2) ∧ Rl S2
def cpQ_judge (Rl : cpS → Prop) : Prop := ∀ (x1 : Int32) (x2 : Int32) (S : cpS), Rl S → ∃ (r : Int32) (S1 S2 : cpS), fX11_judge x1 x2 S = some (r, S1) ∧ fX12_judge x1 x2 S1 = some (r, S2) ∧ Rl S2
def cpQ_perform (Rl : cpS → Prop) : Prop := ∀ (x1 : Int32) (S : cpS), Rl S → ∃ (r : Int32) (S1 S2 : cpS), fX11_perform x1 S = some (r, S1) ∧ fX12_perform x1 S1 = some (r, S2) ∧ Rl S2
def cpQ_year (Rl : cpS → Prop) : Prop := ∀ (x1 : Int32) (x2 : Int32) (S : cpS), Rl S → ∃ (r : Int32) (S1 S2 : cpS), fX11_year x1 x2 S = some (r, S1) ∧ fX12_year x1 x2 S1 = some (r, S2) ∧ Rl S2
def cpQ_soonest (Rl : cpS → Prop) : Prop := ∀ (x1 : Int32) (x2 : Int32) (S : cpS), Rl S → ∃ (r : Int32) (S1 S2 : cpS), fX11_soonest x1 x2 S = some (r, S1) ∧ fX12_soonest x1 x2 S1 = some (r, S2) ∧ Rl S2
def cpQ_way (Rl : cpS → Prop) : Prop := ∀ (x1 : Int32) (x2 : Int32) (x3 : Int32) (S : cpS), Rl S → ∃ (r : Int32) (S1 S2 : cpS), fX11_way x1 x2 x3 S = some (r, S1) ∧ fX12_way x1 x2 x3 S1 = some (r, S2) ∧ Rl S2
def cpQ_rows (Rl : cpS → Prop) : Prop := ∀ (x1 : Int32) (x2 : Int32) (x3 : Int32) (S : cpS), Rl S → ∃ (r : Int64) (S1 S2 : cpS), fX11_rows x1 x2 x3 S = some (r, S1) ∧ fX12_rows x1 x2 x3 S1 = some (r, S2) ∧ Rl S2
def cpQ_reach (Rl : cpS → Prop) : Prop := ∀ (x1 : Int32) (S : cpS), Rl S → ∃ (r : Int32) (S1 S2 : cpS), fX11_reach x1 S = some (r, S1) ∧ fX12_reach x1 S1 = some (r, S2) ∧ Rl S2
def cpQ_pays (Rl : cpS → Prop) : Prop := ∀ (x1 : Int32) (x2 : Int32) (x3 : Int32) (S : cpS), Rl S → ∃ (r : Int32) (S1 S2 : cpS), fX11_pays x1 x2 x3 S = some (r, S1) ∧ fX12_pays x1 x2 x3 S1 = some (r, S2) ∧ Rl S2
def cpQ_pairs (Rl : cpS → Prop) : Prop := ∀ (x1 : Int32) (S : cpS), Rl S → ∃ (r : Int32) (S1 S2 : cpS), fX11_pairs x1 S = some (r, S1) ∧ fX12_pairs x1 S1 = some (r, S2) ∧ Rl S2
def cpQ_with (Rl : cpS → Prop) : Prop := ∀ (x1 : Int32) (x2 : Int32) (S : cpS), Rl S → ∃ (r : Int32) (S1 S2 : cpS), fX11_with x1 x2 S = some (r, S1) ∧ fX12_with x1 x2 S1 = some (r, S2) ∧ Rl S2
def cpQ_lifters (Rl : cpS → Prop) : Prop := ∀ (x1 : Int32) (x2 : Int32) (S : cpS), Rl S → ∃ (r : Int32) (S1 S2 : cpS), fX11_lifters x1 x2 S = some (r, S1) ∧ fX12_lifters x1 x2 S1 = some (r, S2) ∧ Rl S2
def cpQ_guards (Rl : cpS → Prop) : Prop := ∀ (x1 : Int32) (x2 : Int32) (x3 : Int32) (S : cpS), Rl S → ∃ (r : Int32) (S1 S2 : cpS), fX11_guards x1 x2 x3 S = some (r, S1) ∧ fX12_guards x1 x2 x3 S1 = some (r, S2) ∧ Rl S2
def cpQ_rests (Rl : cpS → Prop) : Prop := ∀ (x1 : Int32) (x2 : Int32) (S : cpS), Rl S → ∃ (r : Int32) (S1 S2 : cpS), fX11_rests x1 x2 S = some (r, S1) ∧ fX12_rests x1 x2 S1 = some (r, S2) ∧ Rl S2
def cpQ_lifting (Rl : cpS → Prop) : Prop := ∀ (x1 : Int32) (x2 : Int32) (x3 : Int32) (S : cpS), Rl S → ∃ (r : Int32) (S1 S2 : cpS), fX11_lifting x1 x2 x3 S = some (r, S1) ∧ fX12_lifting x1 x2 x3 S1 = some (r, S2) ∧ Rl S2
def cpQ_talk (Rl : cpS → Prop) : Prop := ∀ (x1 : Int32) (x2 : Int32) (S : cpS), Rl S → ∃ (r : Int32) (S1 S2 : cpS), fX11_talk x1 x2 S = some (r, S1) ∧ fX12_talk x1 x2 S1 = some (r, S2) ∧ Rl S2
def cpQ_told (Rl : cpS → Prop) : Prop := ∀ (x1 : Int32) (S : cpS), Rl S → ∃ (r : Int32) (S1 S2 : cpS), fX11_told x1 S = some (r, S1) ∧ fX12_told x1 S1 = some (r, S2) ∧ Rl S2
def cpQ_camps (Rl : cpS → Prop) : Prop := ∀ (x1 : Int32) (S : cpS), Rl S → ∃ (r : Int32) (S1 S2 : cpS), fX11_camps x1 S = some (r, S1) ∧ fX12_camps x1 S1 = some (r, S2) ∧ Rl S2
def cpQ_peace (Rl : cpS → Prop) : Prop := ∀  (S : cpS), Rl S → ∃ (r : Int32) (S1 S2 : cpS), fX11_peace S = some (r, S1) ∧ fX12_peace S1 = some (r, S2) ∧ Rl S2
def cpQ_wornBy (Rl : cpS → Prop) : Prop := ∀ (x1 : Int32) (x2 : Int32) (S : cpS), Rl S → ∃ (r : Int64) (S1 S2 : cpS), fX11_wornBy x1 x2 S = some (r, S1) ∧ fX12_wornBy x1 x2 S1 = some (r, S2) ∧ Rl S2
def cpQ_wornFirst (Rl : cpS → Prop) : Prop := ∀ (x1 : Int32) (x2 : Int32) (x3 : Int32) (S : cpS), Rl S → ∃ (r : Int32) (S1 S2 : cpS), fX11_wornFirst x1 x2 x3 S = some (r, S1) ∧ fX12_wornFirst x1 x2 x3 S1 = some (r, S2) ∧ Rl S2
def cpQ_who (Rl : cpS → Prop) : Prop := ∀ (x1 : Int32) (x2 : Int32) (x3 : Int32) (S : cpS), Rl S → ∃ (r : Int32) (S1 S2 : cpS), fX11_who x1 x2 x3 S = some (r, S1) ∧ fX12_who x1 x2 x3 S1 = some (r, S2) ∧ Rl S2
def cpQ_hours (Rl : cpS → Prop) : Prop := ∀ (x1 : Int32) (S : cpS), Rl S → ∃ (r : Int32) (S1 S2 : cpS), fX11_hours x1 S = some (r, S1) ∧ fX12_hours x1 S1 = some (r, S2) ∧ Rl S2
def cpQ_attempt (Rl : cpS → Prop) : Prop := ∀ (x1 : Int32) (x2 : Int32) (x3 : Int32) (S : cpS), Rl S → ∃ (r : Int32) (S1 S2 : cpS), fX11_attempt x1 x2 x3 S = some (r, S1) ∧ fX12_attempt x1 x2 x3 S1 = some (r, S2) ∧ Rl S2
def cpQ_forces (Rl : cpS → Prop) : Prop := ∀ (x1 : Int32) (x2 : Int32) (S : cpS), Rl S → ∃ (r : Int32) (S1 S2 : cpS), fX11_forces x1 x2 S = some (r, S1) ∧ fX12_forces x1 x2 S1 = some (r, S2) ∧ Rl S2
def cpQ_best (Rl : cpS → Prop) : Prop := ∀ (x1 : Int32) (x2 : Int32) (S : cpS), Rl S → ∃ (r : Int32) (S1 S2 : cpS), fX11_best x1 x2 S = some (r, S1) ∧ fX12_best x1 x2 S1 = some (r, S2) ∧ Rl S2
def cpQ_chance (Rl : cpS → Prop) : Prop := ∀ (x1 : Int32) (x2 : Int32) (x3 : Int32) (S : cpS), Rl S → ∃ (r : Int32) (S1 S2 : cpS), fX11_chance x1 x2 x3 S = some (r, S1) ∧ fX12_chance x1 x2 x3 S1 = some (r, S2) ∧ Rl S2
def cpQ_by (Rl : cpS → Prop) : Prop := ∀ (x1 : Int32) (x2 : Int32) (S : cpS), Rl S → ∃ (r : Int32) (S1 S2 : cpS), fX11_by x1 x2 S = some (r, S1) ∧ fX12_by x1 x2 S1 = some (r, S2) ∧ Rl S2
def cpQ_numbers (Rl : cpS → Prop) : Prop := ∀ (x1 : Int32) (x2 : Int32) (x3 : Int32) (S : cpS), Rl S → ∃ (r : Int32) (S1 S2 : cpS), fX11_numbers x1 x2 x3 S = some (r, S1) ∧ fX12_numbers x1 x2 x3 S1 = some (r, S2) ∧ Rl S2
def cpQ_write (Rl : cpS → Prop) : Prop := ∀ (x1 : Int32) (x2 : Int32) (x3 : Int64) (S : cpS), Rl S → ∃ (r : Int64) (S1 S2 : cpS), fX11_write x1 x2 x3 S = some (r, S1) ∧ fX12_write x1 x2 x3 S1 = some (r, S2) ∧ Rl S2
def cpQ_lists (Rl : cpS → Prop) : Prop := ∀ (x1 : Int32) (x2 : Int32) (x3 : Int32) (S : cpS), Rl S → ∃ (r : Int32) (S1 S2 : cpS), fX11_lists x1 x2 x3 S = some (r, S1) ∧ fX12_lists x1 x2 x3 S1 = some (r, S2) ∧ Rl S2
def cpQ_image (Rl : cpS → Prop) : Prop := ∀ (x1 : Int32) (S : cpS), Rl S → ∃ (r : Int32) (S1 S2 : cpS), fX11_image x1 S = some (r, S1) ∧ fX12_image x1 S1 = some (r, S2) ∧ Rl S2
def cpQ_restore (Rl : cpS → Prop) : Prop := ∀ (x1 : Int32) (S : cpS), Rl S → ∃ (r : Int32) (S1 S2 : cpS), fX11_restore x1 S = some (r, S1) ∧ fX12_restore x1 S1 = some (r, S2) ∧ Rl S2
def cpQ_count (Rl : cpS → Prop) : Prop := ∀ (x1 : Int32) (S : cpS), Rl S → ∃ (r : Int32) (S1 S2 : cpS), fX11_count x1 S = some (r, S1) ∧ fX12_count x1 S1 = some (r, S2) ∧ Rl S2
