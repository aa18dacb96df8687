set_option maxRecDepth 20000 in
theorem uwX0 : ∀ w ∈ u_ws RX0 TX0 6, w ∈ lw_good := by
  show ∀ w ∈ [Cond.lays "LabelNet$Link" "LabelNet$Link" "laid" "Z", Cond.lays "LabelNet$Link" "LabelNet$Link" "up" "Z", Cond.lays "LabelNet$Link" "LabelNet$Link" "lower" "I", Cond.lays "LabelNet$Link" "LabelNet$Link" "greater" "I", Cond.lays "LabelNet$Link" "LabelNet$Link" "cost" "I", Cond.laysFinal "LabelNet$Link" "LabelNet$Link" "queues" "[LLabelNet$MessageQueue;"], w ∈ lw_good
  exact List.forall_mem_cons.mpr ⟨lw_good_of 244 (by decide +kernel) (by decide +kernel), List.forall_mem_cons.mpr ⟨lw_good_of 246 (by decide +kernel) (by decide +kernel), List.forall_mem_cons.mpr ⟨lw_good_of 248 (by decide +kernel) (by decide +kernel), List.forall_mem_cons.mpr ⟨lw_good_of 250 (by decide +kernel) (by decide +kernel), List.forall_mem_cons.mpr ⟨lw_good_of 252 (by decide +kernel) (by decide +kernel), List.forall_mem_cons.mpr ⟨lw_good_of 254 (by decide +kernel) (by decide +kernel), fun _ h => absurd h List.not_mem_nil⟩⟩⟩⟩⟩⟩
set_option maxRecDepth 20000 in
theorem clX0 : tCl 0 RX0 TX0 6 := ⟨rfl, uwX0, ⟨tyX0, tyX0_ok⟩, nmX0⟩
set_option maxRecDepth 20000 in
theorem uwX1 : ∀ w ∈ u_ws RX1 TX1 6, w ∈ lw_good := by
  show ∀ w ∈ [Cond.lays "LabelNet$Message" "LabelNet$Message" "kind" "I", Cond.lays "LabelNet$Message" "LabelNet$Message" "subject" "I", Cond.lays "LabelNet$Message" "LabelNet$Message" "value" "I", Cond.lays "LabelNet$Message" "LabelNet$Message" "path" "I", Cond.lays "LabelNet$Message" "LabelNet$Message" "record" "LLabelNet$RouterRecord;", Cond.lays "LabelNet$Message" "LabelNet$Message" "spoiled" "Z"], w ∈ lw_good
  exact List.forall_mem_cons.mpr ⟨lw_good_of 106 (by decide +kernel) (by decide +kernel), List.forall_mem_cons.mpr ⟨lw_good_of 108 (by decide +kernel) (by decide +kernel), List.forall_mem_cons.mpr ⟨lw_good_of 110 (by decide +kernel) (by decide +kernel), List.forall_mem_cons.mpr ⟨lw_good_of 112 (by decide +kernel) (by decide +kernel), List.forall_mem_cons.mpr ⟨lw_good_of 114 (by decide +kernel) (by decide +kernel), List.forall_mem_cons.mpr ⟨lw_good_of 116 (by decide +kernel) (by decide +kernel), fun _ h => absurd h List.not_mem_nil⟩⟩⟩⟩⟩⟩
set_option maxRecDepth 20000 in
theorem clX1 : tCl 1 RX1 TX1 6 := ⟨rfl, uwX1, ⟨tyX1, tyX1_ok⟩, nmX1⟩
set_option maxRecDepth 20000 in
theorem uwX2 : ∀ w ∈ u_ws RX2 TX2 3, w ∈ lw_good := by
  show ∀ w ∈ [Cond.laysFinal "LabelNet$MessageQueue" "LabelNet$MessageQueue" "slots" "[LLabelNet$Message;", Cond.lays "LabelNet$MessageQueue" "LabelNet$MessageQueue" "first" "I", Cond.lays "LabelNet$MessageQueue" "LabelNet$MessageQueue" "size" "I"], w ∈ lw_good
  exact List.forall_mem_cons.mpr ⟨lw_good_of 225 (by decide +kernel) (by decide +kernel), List.forall_mem_cons.mpr ⟨lw_good_of 227 (by decide +kernel) (by decide +kernel), List.forall_mem_cons.mpr ⟨lw_good_of 229 (by decide +kernel) (by decide +kernel), fun _ h => absurd h List.not_mem_nil⟩⟩⟩
set_option maxRecDepth 20000 in
theorem clX2 : tCl 2 RX2 TX2 3 := ⟨rfl, uwX2, ⟨tyX2, tyX2_ok⟩, nmX2⟩
set_option maxRecDepth 20000 in
theorem uwX3 : ∀ w ∈ u_ws RX3 TX3 5, w ∈ lw_good := by
  show ∀ w ∈ [Cond.laysFinal "LabelNet$Packet" "LabelNet$Packet" "prefix" "I", Cond.lays "LabelNet$Packet" "LabelNet$Packet" "ttl" "I", Cond.lays "LabelNet$Packet" "LabelNet$Packet" "router" "I", Cond.lays "LabelNet$Packet" "LabelNet$Packet" "label" "I", Cond.lays "LabelNet$Packet" "LabelNet$Packet" "fate" "I"], w ∈ lw_good
  exact List.forall_mem_cons.mpr ⟨lw_good_of 684 (by decide +kernel) (by decide +kernel), List.forall_mem_cons.mpr ⟨lw_good_of 686 (by decide +kernel) (by decide +kernel), List.forall_mem_cons.mpr ⟨lw_good_of 688 (by decide +kernel) (by decide +kernel), List.forall_mem_cons.mpr ⟨lw_good_of 690 (by decide +kernel) (by decide +kernel), List.forall_mem_cons.mpr ⟨lw_good_of 692 (by decide +kernel) (by decide +kernel), fun _ h => absurd h List.not_mem_nil⟩⟩⟩⟩⟩
set_option maxRecDepth 20000 in
theorem clX3 : tCl 3 RX3 TX3 5 := ⟨rfl, uwX3, ⟨tyX3, tyX3_ok⟩, nmX3⟩
set_option maxRecDepth 20000 in
theorem uwX4 : ∀ w ∈ u_ws RX4 TX4 9, w ∈ lw_good := by
  show ∀ w ∈ [Cond.laysFinal "LabelNet$Router" "LabelNet$Router" "id" "I", Cond.laysFinal "LabelNet$Router" "LabelNet$Router" "known" "[LLabelNet$RouterRecord;", Cond.laysFinal "LabelNet$Router" "LabelNet$Router" "distances" "[[I", Cond.laysFinal "LabelNet$Router" "LabelNet$Router" "mappedLabels" "[[I", Cond.laysFinal "LabelNet$Router" "LabelNet$Router" "mappedPaths" "[[I", Cond.laysFinal "LabelNet$Router" "LabelNet$Router" "labels" "[I", Cond.laysFinal "LabelNet$Router" "LabelNet$Router" "paths" "[I", Cond.laysFinal "LabelNet$Router" "LabelNet$Router" "users" "[I", Cond.laysFinal "LabelNet$Router" "LabelNet$Router" "unreleased" "[I"], w ∈ lw_good
  exact List.forall_mem_cons.mpr ⟨lw_good_of 187 (by decide +kernel) (by decide +kernel), List.forall_mem_cons.mpr ⟨lw_good_of 189 (by decide +kernel) (by decide +kernel), List.forall_mem_cons.mpr ⟨lw_good_of 191 (by decide +kernel) (by decide +kernel), List.forall_mem_cons.mpr ⟨lw_good_of 193 (by decide +kernel) (by decide +kernel), List.forall_mem_cons.mpr ⟨lw_good_of 195 (by decide +kernel) (by decide +kernel), List.forall_mem_cons.mpr ⟨lw_good_of 197 (by decide +kernel) (by decide +kernel), List.forall_mem_cons.mpr ⟨lw_good_of 199 (by decide +kernel) (by decide +kernel), List.forall_mem_cons.mpr ⟨lw_good_of 201 (by decide +kernel) (by decide +kernel), List.forall_mem_cons.mpr ⟨lw_good_of 203 (by decide +kernel) (by decide +kernel), fun _ h => absurd h List.not_mem_nil⟩⟩⟩⟩⟩⟩⟩⟩⟩
set_option maxRecDepth 20000 in
theorem clX4 : tCl 4 RX4 TX4 9 := ⟨rfl, uwX4, ⟨tyX4, tyX4_ok⟩, nmX4⟩
set_option maxRecDepth 20000 in
theorem uwX5 : ∀ w ∈ u_ws RX5 TX5 4, w ∈ lw_good := by
  show ∀ w ∈ [Cond.laysFinal "LabelNet$RouterRecord" "LabelNet$RouterRecord" "router" "I", Cond.laysFinal "LabelNet$RouterRecord" "LabelNet$RouterRecord" "number" "I", Cond.laysFinal "LabelNet$RouterRecord" "LabelNet$RouterRecord" "linkBits" "I", Cond.laysFinal "LabelNet$RouterRecord" "LabelNet$RouterRecord" "prefixBits" "I"], w ∈ lw_good
  exact List.forall_mem_cons.mpr ⟨lw_good_of 152 (by decide +kernel) (by decide +kernel), List.forall_mem_cons.mpr ⟨lw_good_of 154 (by decide +kernel) (by decide +kernel), List.forall_mem_cons.mpr ⟨lw_good_of 156 (by decide +kernel) (by decide +kernel), List.forall_mem_cons.mpr ⟨lw_good_of 158 (by decide +kernel) (by decide +kernel), fun _ h => absurd h List.not_mem_nil⟩⟩⟩⟩
set_option maxRecDepth 20000 in
theorem clX5 : tCl 5 RX5 TX5 4 := ⟨rfl, uwX5, ⟨tyX5, tyX5_ok⟩, nmX5⟩
set_option maxRecDepth 20000 in
theorem uwX6 : ∀ w ∈ u_ws RX6 TX6 7, w ∈ lw_good := by
  show ∀ w ∈ [Cond.laysFinal "LabelNet" "LabelNet" "routers" "[LLabelNet$Router;", Cond.laysFinal "LabelNet" "LabelNet" "links" "[LLabelNet$Link;", Cond.laysFinal "LabelNet" "LabelNet" "attachedTo" "[I", Cond.laysFinal "LabelNet" "LabelNet" "packets" "[LLabelNet$Packet;", Cond.lays "LabelNet" "LabelNet" "packetCount" "I", Cond.lays "LabelNet" "LabelNet" "lostMessages" "I", Cond.laysFinal "LabelNet" "LabelNet" "draft" "LLabelNet$Message;"], w ∈ lw_good
  exact List.forall_mem_cons.mpr ⟨lw_good_of 264 (by decide +kernel) (by decide +kernel), List.forall_mem_cons.mpr ⟨lw_good_of 266 (by decide +kernel) (by decide +kernel), List.forall_mem_cons.mpr ⟨lw_good_of 268 (by decide +kernel) (by decide +kernel), List.forall_mem_cons.mpr ⟨lw_good_of 270 (by decide +kernel) (by decide +kernel), List.forall_mem_cons.mpr ⟨lw_good_of 272 (by decide +kernel) (by decide +kernel), List.forall_mem_cons.mpr ⟨lw_good_of 274 (by decide +kernel) (by decide +kernel), List.forall_mem_cons.mpr ⟨lw_good_of 276 (by decide +kernel) (by decide +kernel), fun _ h => absurd h List.not_mem_nil⟩⟩⟩⟩⟩⟩⟩
set_option maxRecDepth 20000 in
theorem clX6 : tCl 6 RX6 TX6 7 := ⟨rfl, uwX6, ⟨tyX6, tyX6_ok⟩, nmX6⟩
set_option maxRecDepth 20000 in
theorem uwX7 : ∀ w ∈ u_ws RX7 TX7 31, w ∈ lw_good := by
  show ∀ w ∈ [Cond.lays "LabelNetModel" "LabelNetModel" "thrown" "I", Cond.laysFinal "LabelNetModel" "LabelNetModel" "routers" "I", Cond.laysFinal "LabelNetModel" "LabelNetModel" "laid" "[Z", Cond.laysFinal "LabelNetModel" "LabelNetModel" "up" "[Z", Cond.laysFinal "LabelNetModel" "LabelNetModel" "low" "[I", Cond.laysFinal "LabelNetModel" "LabelNetModel" "high" "[I", Cond.laysFinal "LabelNetModel" "LabelNetModel" "cost" "[I", Cond.laysFinal "LabelNetModel" "LabelNetModel" "attached" "[I", Cond.laysFinal "LabelNetModel" "LabelNetModel" "number" "[I", Cond.laysFinal "LabelNetModel" "LabelNetModel" "knownLinks" "[I", Cond.laysFinal "LabelNetModel" "LabelNetModel" "knownPrefixes" "[I", Cond.laysFinal "LabelNetModel" "LabelNetModel" "waiting" "[I", Cond.laysFinal "LabelNetModel" "LabelNetModel" "kinds" "[I", Cond.laysFinal "LabelNetModel" "LabelNetModel" "whose" "[I", Cond.laysFinal "LabelNetModel" "LabelNetModel" "what" "[I", Cond.laysFinal "LabelNetModel" "LabelNetModel" "body" "[I", Cond.laysFinal "LabelNetModel" "LabelNetModel" "spoiled" "[Z", Cond.lays "LabelNetModel" "LabelNetModel" "lost" "I", Cond.laysFinal "LabelNetModel" "LabelNetModel" "brought" "[I", Cond.laysFinal "LabelNetModel" "LabelNetModel" "broughtPath" "[I", Cond.laysFinal "LabelNetModel" "LabelNetModel" "label" "[I", Cond.laysFinal "LabelNetModel" "LabelNetModel" "path" "[I", Cond.laysFinal "LabelNetModel" "LabelNetModel" "use" "[I", Cond.laysFinal "LabelNetModel" "LabelNetModel" "owed" "[I", Cond.lays "LabelNetModel" "LabelNetModel" "packets" "I", Cond.laysFinal "LabelNetModel" "LabelNetModel" "prefixOf" "[I", Cond.laysFinal "LabelNetModel" "LabelNetModel" "ttl" "[I", Cond.laysFinal "LabelNetModel" "LabelNetModel" "at" "[I", Cond.laysFinal "LabelNetModel" "LabelNetModel" "fate" "[I", Cond.laysFinal "LabelNetModel" "LabelNetModel" "labelOf" "[I", Cond.laysFinal "LabelNetModel" "LabelNetModel" "far" "[I"], w ∈ lw_good
  exact List.forall_mem_cons.mpr ⟨lw_good_of 732 (by decide +kernel) (by decide +kernel), List.forall_mem_cons.mpr ⟨lw_good_of 734 (by decide +kernel) (by decide +kernel), List.forall_mem_cons.mpr ⟨lw_good_of 736 (by decide +kernel) (by decide +kernel), List.forall_mem_cons.mpr ⟨lw_good_of 738 (by decide +kernel) (by decide +kernel), List.forall_mem_cons.mpr ⟨lw_good_of 740 (by decide +kernel) (by decide +kernel), List.forall_mem_cons.mpr ⟨lw_good_of 742 (by decide +kernel) (by decide +kernel), List.forall_mem_cons.mpr ⟨lw_good_of 744 (by decide +kernel) (by decide +kernel), List.forall_mem_cons.mpr ⟨lw_good_of 746 (by decide +kernel) (by decide +kernel), List.forall_mem_cons.mpr ⟨lw_good_of 748 (by decide +kernel) (by decide +kernel), List.forall_mem_cons.mpr ⟨lw_good_of 750 (by decide +kernel) (by decide +kernel), List.forall_mem_cons.mpr ⟨lw_good_of 752 (by decide +kernel) (by decide +kernel), List.forall_mem_cons.mpr ⟨lw_good_of 754 (by decide +kernel) (by decide +kernel), List.forall_mem_cons.mpr ⟨lw_good_of 756 (by decide +kernel) (by decide +kernel), List.forall_mem_cons.mpr ⟨lw_good_of 758 (by decide +kernel) (by decide +kernel), List.forall_mem_cons.mpr ⟨lw_good_of 760 (by decide +kernel) (by decide +kernel), List.forall_mem_cons.mpr ⟨lw_good_of 762 (by decide +kernel) (by decide +kernel), List.forall_mem_cons.mpr ⟨lw_good_of 764 (by decide +kernel) (by decide +kernel), List.forall_mem_cons.mpr ⟨lw_good_of 766 (by decide +kernel) (by decide +kernel), List.forall_mem_cons.mpr ⟨lw_good_of 768 (by decide +kernel) (by decide +kernel), List.forall_mem_cons.mpr ⟨lw_good_of 770 (by decide +kernel) (by decide +kernel), List.forall_mem_cons.mpr ⟨lw_good_of 772 (by decide +kernel) (by decide +kernel), List.forall_mem_cons.mpr ⟨lw_good_of 774 (by decide +kernel) (by decide +kernel), List.forall_mem_cons.mpr ⟨lw_good_of 776 (by decide +kernel) (by decide +kernel), List.forall_mem_cons.mpr ⟨lw_good_of 778 (by decide +kernel) (by decide +kernel), List.forall_mem_cons.mpr ⟨lw_good_of 780 (by decide +kernel) (by decide +kernel), List.forall_mem_cons.mpr ⟨lw_good_of 782 (by decide +kernel) (by decide +kernel), List.forall_mem_cons.mpr ⟨lw_good_of 784 (by decide +kernel) (by decide +kernel), List.forall_mem_cons.mpr ⟨lw_good_of 786 (by decide +kernel) (by decide +kernel), List.forall_mem_cons.mpr ⟨lw_good_of 788 (by decide +kernel) (by decide +kernel), List.forall_mem_cons.mpr ⟨lw_good_of 790 (by decide +kernel) (by decide +kernel), List.forall_mem_cons.mpr ⟨lw_good_of 792 (by decide +kernel) (by decide +kernel), fun _ h => absurd h List.not_mem_nil⟩⟩⟩⟩⟩⟩⟩⟩⟩⟩⟩⟩⟩⟩⟩⟩⟩⟩⟩⟩⟩⟩⟩⟩⟩⟩⟩⟩⟩⟩⟩
set_option maxRecDepth 20000 in
theorem clX7 : tCl 7 RX7 TX7 31 := ⟨rfl, uwX7, ⟨tyX7, tyX7_ok⟩, nmX7⟩
set_option maxRecDepth 20000 in
theorem flX1_9 : tFd RX1 9 1 0 .int false := ⟨RX1, TX1, 6, clX1, by decide, lw_good_of 94 (by decide +kernel) (by decide +kernel), by decide +kernel, rfl, rfl⟩
set_option maxRecDepth 20000 in
theorem flX6_246 : tFd RX6 246 1 0 .int false := ⟨RX1, TX1, 6, clX1, by decide, lw_good_of 95 (by decide +kernel) (by decide +kernel), by decide +kernel, rfl, rfl⟩
set_option maxRecDepth 20000 in
theorem flX1_15 : tFd RX1 15 1 1 .int false := ⟨RX1, TX1, 6, clX1, by decide, lw_good_of 96 (by decide +kernel) (by decide +kernel), by decide +kernel, rfl, rfl⟩
set_option maxRecDepth 20000 in
theorem flX6_176 : tFd RX6 176 1 1 .int false := ⟨RX1, TX1, 6, clX1, by decide, lw_good_of 97 (by decide +kernel) (by decide +kernel), by decide +kernel, rfl, rfl⟩
set_option maxRecDepth 20000 in
theorem flX1_18 : tFd RX1 18 1 2 .int false := ⟨RX1, TX1, 6, clX1, by decide, lw_good_of 98 (by decide +kernel) (by decide +kernel), by decide +kernel, rfl, rfl⟩
set_option maxRecDepth 20000 in
theorem flX6_179 : tFd RX6 179 1 2 .int false := ⟨RX1, TX1, 6, clX1, by decide, lw_good_of 99 (by decide +kernel) (by decide +kernel), by decide +kernel, rfl, rfl⟩
set_option maxRecDepth 20000 in
theorem flX1_21 : tFd RX1 21 1 3 .int false := ⟨RX1, TX1, 6, clX1, by decide, lw_good_of 100 (by decide +kernel) (by decide +kernel), by decide +kernel, rfl, rfl⟩
set_option maxRecDepth 20000 in
theorem flX6_182 : tFd RX6 182 1 3 .int false := ⟨RX1, TX1, 6, clX1, by decide, lw_good_of 101 (by decide +kernel) (by decide +kernel), by decide +kernel, rfl, rfl⟩
set_option maxRecDepth 20000 in
theorem flX1_24 : tFd RX1 24 1 4 (.object "LabelNet$RouterRecord") false := ⟨RX1, TX1, 6, clX1, by decide, lw_good_of 102 (by decide +kernel) (by decide +kernel), by decide +kernel, rfl, rfl⟩
set_option maxRecDepth 20000 in
theorem flX6_323 : tFd RX6 323 1 4 (.object "LabelNet$RouterRecord") false := ⟨RX1, TX1, 6, clX1, by decide, lw_good_of 103 (by decide +kernel) (by decide +kernel), by decide +kernel, rfl, rfl⟩
set_option maxRecDepth 20000 in
theorem flX1_40 : tFd RX1 40 1 5 .boolean false := ⟨RX1, TX1, 6, clX1, by decide, lw_good_of 104 (by decide +kernel) (by decide +kernel), by decide +kernel, rfl, rfl⟩
set_option maxRecDepth 20000 in
theorem flX6_141 : tFd RX6 141 1 5 .boolean false := ⟨RX1, TX1, 6, clX1, by decide, lw_good_of 105 (by decide +kernel) (by decide +kernel), by decide +kernel, rfl, rfl⟩
set_option maxRecDepth 20000 in
theorem flX5_7 : tFd RX5 7 5 0 .int true := ⟨RX5, TX5, 4, clX5, by decide, lw_good_of 142 (by decide +kernel) (by decide +kernel), by decide +kernel, rfl, rfl⟩
set_option maxRecDepth 20000 in
theorem flX1_28 : tFd RX1 28 5 0 .int true := ⟨RX5, TX5, 4, clX5, by decide, lw_good_of 143 (by decide +kernel) (by decide +kernel), by decide +kernel, rfl, rfl⟩
set_option maxRecDepth 20000 in
theorem flX6_284 : tFd RX6 284 5 0 .int true := ⟨RX5, TX5, 4, clX5, by decide, lw_good_of 144 (by decide +kernel) (by decide +kernel), by decide +kernel, rfl, rfl⟩
set_option maxRecDepth 20000 in
theorem flX5_13 : tFd RX5 13 5 1 .int true := ⟨RX5, TX5, 4, clX5, by decide, lw_good_of 145 (by decide +kernel) (by decide +kernel), by decide +kernel, rfl, rfl⟩
set_option maxRecDepth 20000 in
theorem flX1_33 : tFd RX1 33 5 1 .int true := ⟨RX5, TX5, 4, clX5, by decide, lw_good_of 146 (by decide +kernel) (by decide +kernel), by decide +kernel, rfl, rfl⟩
set_option maxRecDepth 20000 in
theorem flX6_189 : tFd RX6 189 5 1 .int true := ⟨RX5, TX5, 4, clX5, by decide, lw_good_of 147 (by decide +kernel) (by decide +kernel), by decide +kernel, rfl, rfl⟩
set_option maxRecDepth 20000 in
theorem flX5_16 : tFd RX5 16 5 2 .int true := ⟨RX5, TX5, 4, clX5, by decide, lw_good_of 148 (by decide +kernel) (by decide +kernel), by decide +kernel, rfl, rfl⟩
set_option maxRecDepth 20000 in
theorem flX4_55 : tFd RX4 55 5 2 .int true := ⟨RX5, TX5, 4, clX5, by decide, lw_good_of 149 (by decide +kernel) (by decide +kernel), by decide +kernel, rfl, rfl⟩
set_option maxRecDepth 20000 in
theorem flX5_19 : tFd RX5 19 5 3 .int true := ⟨RX5, TX5, 4, clX5, by decide, lw_good_of 150 (by decide +kernel) (by decide +kernel), by decide +kernel, rfl, rfl⟩
set_option maxRecDepth 20000 in
theorem flX4_68 : tFd RX4 68 5 3 .int true := ⟨RX5, TX5, 4, clX5, by decide, lw_good_of 151 (by decide +kernel) (by decide +kernel), by decide +kernel, rfl, rfl⟩
set_option maxRecDepth 20000 in
theorem flX4_41 : tFd RX4 41 4 0 .int true := ⟨RX4, TX4, 9, clX4, by decide, lw_good_of 170 (by decide +kernel) (by decide +kernel), by decide +kernel, rfl, rfl⟩
set_option maxRecDepth 20000 in
theorem flX6_249 : tFd RX6 249 4 0 .int true := ⟨RX4, TX4, 9, clX4, by decide, lw_good_of 171 (by decide +kernel) (by decide +kernel), by decide +kernel, rfl, rfl⟩
set_option maxRecDepth 20000 in
theorem flX4_11 : tFd RX4 11 4 1 (.array (.object "LabelNet$RouterRecord")) true := ⟨RX4, TX4, 9, clX4, by decide, lw_good_of 172 (by decide +kernel) (by decide +kernel), by decide +kernel, rfl, rfl⟩
set_option maxRecDepth 20000 in
theorem flX6_185 : tFd RX6 185 4 1 (.array (.object "LabelNet$RouterRecord")) true := ⟨RX4, TX4, 9, clX4, by decide, lw_good_of 173 (by decide +kernel) (by decide +kernel), by decide +kernel, rfl, rfl⟩
set_option maxRecDepth 20000 in
theorem flX4_19 : tFd RX4 19 4 2 (.array (.array .int)) true := ⟨RX4, TX4, 9, clX4, by decide, lw_good_of 174 (by decide +kernel) (by decide +kernel), by decide +kernel, rfl, rfl⟩
set_option maxRecDepth 20000 in
theorem flX6_194 : tFd RX6 194 4 2 (.array (.array .int)) true := ⟨RX4, TX4, 9, clX4, by decide, lw_good_of 175 (by decide +kernel) (by decide +kernel), by decide +kernel, rfl, rfl⟩
set_option maxRecDepth 20000 in
theorem flX4_22 : tFd RX4 22 4 3 (.array (.array .int)) true := ⟨RX4, TX4, 9, clX4, by decide, lw_good_of 176 (by decide +kernel) (by decide +kernel), by decide +kernel, rfl, rfl⟩
set_option maxRecDepth 20000 in
theorem flX6_213 : tFd RX6 213 4 3 (.array (.array .int)) true := ⟨RX4, TX4, 9, clX4, by decide, lw_good_of 177 (by decide +kernel) (by decide +kernel), by decide +kernel, rfl, rfl⟩
set_option maxRecDepth 20000 in
theorem flX4_25 : tFd RX4 25 4 4 (.array (.array .int)) true := ⟨RX4, TX4, 9, clX4, by decide, lw_good_of 178 (by decide +kernel) (by decide +kernel), by decide +kernel, rfl, rfl⟩
set_option maxRecDepth 20000 in
theorem flX6_220 : tFd RX6 220 4 4 (.array (.array .int)) true := ⟨RX4, TX4, 9, clX4, by decide, lw_good_of 179 (by decide +kernel) (by decide +kernel), by decide +kernel, rfl, rfl⟩
set_option maxRecDepth 20000 in
theorem flX4_28 : tFd RX4 28 4 5 (.array .int) true := ⟨RX4, TX4, 9, clX4, by decide, lw_good_of 180 (by decide +kernel) (by decide +kernel), by decide +kernel, rfl, rfl⟩
set_option maxRecDepth 20000 in
theorem flX6_207 : tFd RX6 207 4 5 (.array .int) true := ⟨RX4, TX4, 9, clX4, by decide, lw_good_of 181 (by decide +kernel) (by decide +kernel), by decide +kernel, rfl, rfl⟩
set_option maxRecDepth 20000 in
theorem flX4_32 : tFd RX4 32 4 6 (.array .int) true := ⟨RX4, TX4, 9, clX4, by decide, lw_good_of 182 (by decide +kernel) (by decide +kernel), by decide +kernel, rfl, rfl⟩
set_option maxRecDepth 20000 in
theorem flX6_210 : tFd RX6 210 4 6 (.array .int) true := ⟨RX4, TX4, 9, clX4, by decide, lw_good_of 183 (by decide +kernel) (by decide +kernel), by decide +kernel, rfl, rfl⟩
set_option maxRecDepth 20000 in
theorem flX4_35 : tFd RX4 35 4 7 (.array .int) true := ⟨RX4, TX4, 9, clX4, by decide, lw_good_of 184 (by decide +kernel) (by decide +kernel), by decide +kernel, rfl, rfl⟩
set_option maxRecDepth 20000 in
theorem flX4_38 : tFd RX4 38 4 8 (.array .int) true := ⟨RX4, TX4, 9, clX4, by decide, lw_good_of 185 (by decide +kernel) (by decide +kernel), by decide +kernel, rfl, rfl⟩
set_option maxRecDepth 20000 in
theorem flX6_305 : tFd RX6 305 4 8 (.array .int) true := ⟨RX4, TX4, 9, clX4, by decide, lw_good_of 186 (by decide +kernel) (by decide +kernel), by decide +kernel, rfl, rfl⟩
set_option maxRecDepth 20000 in
theorem flX2_11 : tFd RX2 11 2 0 (.array (.object "LabelNet$Message")) true := ⟨RX2, TX2, 3, clX2, by decide, lw_good_of 221 (by decide +kernel) (by decide +kernel), by decide +kernel, rfl, rfl⟩
set_option maxRecDepth 20000 in
theorem flX2_17 : tFd RX2 17 2 1 .int false := ⟨RX2, TX2, 3, clX2, by decide, lw_good_of 222 (by decide +kernel) (by decide +kernel), by decide +kernel, rfl, rfl⟩
set_option maxRecDepth 20000 in
theorem flX2_21 : tFd RX2 21 2 2 .int false := ⟨RX2, TX2, 3, clX2, by decide, lw_good_of 223 (by decide +kernel) (by decide +kernel), by decide +kernel, rfl, rfl⟩
set_option maxRecDepth 20000 in
theorem flX6_170 : tFd RX6 170 2 2 .int false := ⟨RX2, TX2, 3, clX2, by decide, lw_good_of 224 (by decide +kernel) (by decide +kernel), by decide +kernel, rfl, rfl⟩
set_option maxRecDepth 20000 in
theorem flX0_9 : tFd RX0 9 0 0 .boolean false := ⟨RX0, TX0, 6, clX0, by decide, lw_good_of 232 (by decide +kernel) (by decide +kernel), by decide +kernel, rfl, rfl⟩
set_option maxRecDepth 20000 in
theorem flX6_72 : tFd RX6 72 0 0 .boolean false := ⟨RX0, TX0, 6, clX0, by decide, lw_good_of 233 (by decide +kernel) (by decide +kernel), by decide +kernel, rfl, rfl⟩
set_option maxRecDepth 20000 in
theorem flX0_15 : tFd RX0 15 0 1 .boolean false := ⟨RX0, TX0, 6, clX0, by decide, lw_good_of 234 (by decide +kernel) (by decide +kernel), by decide +kernel, rfl, rfl⟩
set_option maxRecDepth 20000 in
theorem flX6_92 : tFd RX6 92 0 1 .boolean false := ⟨RX0, TX0, 6, clX0, by decide, lw_good_of 235 (by decide +kernel) (by decide +kernel), by decide +kernel, rfl, rfl⟩
set_option maxRecDepth 20000 in
theorem flX0_18 : tFd RX0 18 0 2 .int false := ⟨RX0, TX0, 6, clX0, by decide, lw_good_of 236 (by decide +kernel) (by decide +kernel), by decide +kernel, rfl, rfl⟩
set_option maxRecDepth 20000 in
theorem flX6_81 : tFd RX6 81 0 2 .int false := ⟨RX0, TX0, 6, clX0, by decide, lw_good_of 237 (by decide +kernel) (by decide +kernel), by decide +kernel, rfl, rfl⟩
set_option maxRecDepth 20000 in
theorem flX0_22 : tFd RX0 22 0 3 .int false := ⟨RX0, TX0, 6, clX0, by decide, lw_good_of 238 (by decide +kernel) (by decide +kernel), by decide +kernel, rfl, rfl⟩
set_option maxRecDepth 20000 in
theorem flX6_84 : tFd RX6 84 0 3 .int false := ⟨RX0, TX0, 6, clX0, by decide, lw_good_of 239 (by decide +kernel) (by decide +kernel), by decide +kernel, rfl, rfl⟩
set_option maxRecDepth 20000 in
theorem flX0_25 : tFd RX0 25 0 4 .int false := ⟨RX0, TX0, 6, clX0, by decide, lw_good_of 240 (by decide +kernel) (by decide +kernel), by decide +kernel, rfl, rfl⟩
set_option maxRecDepth 20000 in
theorem flX6_87 : tFd RX6 87 0 4 .int false := ⟨RX0, TX0, 6, clX0, by decide, lw_good_of 241 (by decide +kernel) (by decide +kernel), by decide +kernel, rfl, rfl⟩
set_option maxRecDepth 20000 in
theorem flX0_30 : tFd RX0 30 0 5 (.array (.object "LabelNet$MessageQueue")) true := ⟨RX0, TX0, 6, clX0, by decide, lw_good_of 242 (by decide +kernel) (by decide +kernel), by decide +kernel, rfl, rfl⟩
set_option maxRecDepth 20000 in
theorem flX6_131 : tFd RX6 131 0 5 (.array (.object "LabelNet$MessageQueue")) true := ⟨RX0, TX0, 6, clX0, by decide, lw_good_of 243 (by decide +kernel) (by decide +kernel), by decide +kernel, rfl, rfl⟩
set_option maxRecDepth 20000 in
theorem flX6_50 : tFd RX6 50 6 0 (.array (.object "LabelNet$Router")) true := ⟨RX6, TX6, 7, clX6, by decide, lw_good_of 257 (by decide +kernel) (by decide +kernel), by decide +kernel, rfl, rfl⟩
set_option maxRecDepth 20000 in
theorem flX6_11 : tFd RX6 11 6 1 (.array (.object "LabelNet$Link")) true := ⟨RX6, TX6, 7, clX6, by decide, lw_good_of 258 (by decide +kernel) (by decide +kernel), by decide +kernel, rfl, rfl⟩
set_option maxRecDepth 20000 in
theorem flX6_15 : tFd RX6 15 6 2 (.array .int) true := ⟨RX6, TX6, 7, clX6, by decide, lw_good_of 259 (by decide +kernel) (by decide +kernel), by decide +kernel, rfl, rfl⟩
set_option maxRecDepth 20000 in
theorem flX6_21 : tFd RX6 21 6 3 (.array (.object "LabelNet$Packet")) true := ⟨RX6, TX6, 7, clX6, by decide, lw_good_of 260 (by decide +kernel) (by decide +kernel), by decide +kernel, rfl, rfl⟩
set_option maxRecDepth 20000 in
theorem flX6_25 : tFd RX6 25 6 4 .int false := ⟨RX6, TX6, 7, clX6, by decide, lw_good_of 261 (by decide +kernel) (by decide +kernel), by decide +kernel, rfl, rfl⟩
set_option maxRecDepth 20000 in
theorem flX6_29 : tFd RX6 29 6 5 .int false := ⟨RX6, TX6, 7, clX6, by decide, lw_good_of 262 (by decide +kernel) (by decide +kernel), by decide +kernel, rfl, rfl⟩
set_option maxRecDepth 20000 in
theorem flX6_35 : tFd RX6 35 6 6 (.object "LabelNet$Message") true := ⟨RX6, TX6, 7, clX6, by decide, lw_good_of 263 (by decide +kernel) (by decide +kernel), by decide +kernel, rfl, rfl⟩
set_option maxRecDepth 20000 in
theorem flX3_21 : tFd RX3 21 3 0 .int true := ⟨RX3, TX3, 5, clX3, by decide, lw_good_of 674 (by decide +kernel) (by decide +kernel), by decide +kernel, rfl, rfl⟩
set_option maxRecDepth 20000 in
theorem flX6_167 : tFd RX6 167 3 0 .int true := ⟨RX3, TX3, 5, clX3, by decide, lw_good_of 675 (by decide +kernel) (by decide +kernel), by decide +kernel, rfl, rfl⟩
set_option maxRecDepth 20000 in
theorem flX3_24 : tFd RX3 24 3 1 .int false := ⟨RX3, TX3, 5, clX3, by decide, lw_good_of 676 (by decide +kernel) (by decide +kernel), by decide +kernel, rfl, rfl⟩
set_option maxRecDepth 20000 in
theorem flX6_161 : tFd RX6 161 3 1 .int false := ⟨RX3, TX3, 5, clX3, by decide, lw_good_of 677 (by decide +kernel) (by decide +kernel), by decide +kernel, rfl, rfl⟩
set_option maxRecDepth 20000 in
theorem flX3_9 : tFd RX3 9 3 2 .int false := ⟨RX3, TX3, 5, clX3, by decide, lw_good_of 678 (by decide +kernel) (by decide +kernel), by decide +kernel, rfl, rfl⟩
set_option maxRecDepth 20000 in
theorem flX6_158 : tFd RX6 158 3 2 .int false := ⟨RX3, TX3, 5, clX3, by decide, lw_good_of 679 (by decide +kernel) (by decide +kernel), by decide +kernel, rfl, rfl⟩
set_option maxRecDepth 20000 in
theorem flX3_15 : tFd RX3 15 3 3 .int false := ⟨RX3, TX3, 5, clX3, by decide, lw_good_of 680 (by decide +kernel) (by decide +kernel), by decide +kernel, rfl, rfl⟩
set_option maxRecDepth 20000 in
theorem flX6_164 : tFd RX6 164 3 3 .int false := ⟨RX3, TX3, 5, clX3, by decide, lw_good_of 681 (by decide +kernel) (by decide +kernel), by decide +kernel, rfl, rfl⟩
set_option maxRecDepth 20000 in
theorem flX3_18 : tFd RX3 18 3 4 .int false := ⟨RX3, TX3, 5, clX3, by decide, lw_good_of 682 (by decide +kernel) (by decide +kernel), by decide +kernel, rfl, rfl⟩
set_option maxRecDepth 20000 in
theorem flX6_155 : tFd RX6 155 3 4 .int false := ⟨RX3, TX3, 5, clX3, by decide, lw_good_of 683 (by decide +kernel) (by decide +kernel), by decide +kernel, rfl, rfl⟩
set_option maxRecDepth 20000 in
theorem flX7_96 : tFd RX7 96 7 0 .int false := ⟨RX7, TX7, 31, clX7, by decide, lw_good_of 701 (by decide +kernel) (by decide +kernel), by decide +kernel, rfl, rfl⟩
set_option maxRecDepth 20000 in
theorem flX7_92 : tFd RX7 92 7 1 .int true := ⟨RX7, TX7, 31, clX7, by decide, lw_good_of 702 (by decide +kernel) (by decide +kernel), by decide +kernel, rfl, rfl⟩
set_option maxRecDepth 20000 in
theorem flX7_7 : tFd RX7 7 7 2 (.array .boolean) true := ⟨RX7, TX7, 31, clX7, by decide, lw_good_of 703 (by decide +kernel) (by decide +kernel), by decide +kernel, rfl, rfl⟩
set_option maxRecDepth 20000 in
theorem flX7_13 : tFd RX7 13 7 3 (.array .boolean) true := ⟨RX7, TX7, 31, clX7, by decide, lw_good_of 704 (by decide +kernel) (by decide +kernel), by decide +kernel, rfl, rfl⟩
set_option maxRecDepth 20000 in
theorem flX7_16 : tFd RX7 16 7 4 (.array .int) true := ⟨RX7, TX7, 31, clX7, by decide, lw_good_of 705 (by decide +kernel) (by decide +kernel), by decide +kernel, rfl, rfl⟩
set_option maxRecDepth 20000 in
theorem flX7_20 : tFd RX7 20 7 5 (.array .int) true := ⟨RX7, TX7, 31, clX7, by decide, lw_good_of 706 (by decide +kernel) (by decide +kernel), by decide +kernel, rfl, rfl⟩
set_option maxRecDepth 20000 in
theorem flX7_23 : tFd RX7 23 7 6 (.array .int) true := ⟨RX7, TX7, 31, clX7, by decide, lw_good_of 707 (by decide +kernel) (by decide +kernel), by decide +kernel, rfl, rfl⟩
set_option maxRecDepth 20000 in
theorem flX7_26 : tFd RX7 26 7 7 (.array .int) true := ⟨RX7, TX7, 31, clX7, by decide, lw_good_of 708 (by decide +kernel) (by decide +kernel), by decide +kernel, rfl, rfl⟩
set_option maxRecDepth 20000 in
theorem flX7_29 : tFd RX7 29 7 8 (.array .int) true := ⟨RX7, TX7, 31, clX7, by decide, lw_good_of 709 (by decide +kernel) (by decide +kernel), by decide +kernel, rfl, rfl⟩
set_option maxRecDepth 20000 in
theorem flX7_32 : tFd RX7 32 7 9 (.array .int) true := ⟨RX7, TX7, 31, clX7, by decide, lw_good_of 710 (by decide +kernel) (by decide +kernel), by decide +kernel, rfl, rfl⟩
set_option maxRecDepth 20000 in
theorem flX7_35 : tFd RX7 35 7 10 (.array .int) true := ⟨RX7, TX7, 31, clX7, by decide, lw_good_of 711 (by decide +kernel) (by decide +kernel), by decide +kernel, rfl, rfl⟩
set_option maxRecDepth 20000 in
theorem flX7_38 : tFd RX7 38 7 11 (.array .int) true := ⟨RX7, TX7, 31, clX7, by decide, lw_good_of 712 (by decide +kernel) (by decide +kernel), by decide +kernel, rfl, rfl⟩
set_option maxRecDepth 20000 in
theorem flX7_41 : tFd RX7 41 7 12 (.array .int) true := ⟨RX7, TX7, 31, clX7, by decide, lw_good_of 713 (by decide +kernel) (by decide +kernel), by decide +kernel, rfl, rfl⟩
set_option maxRecDepth 20000 in
theorem flX7_44 : tFd RX7 44 7 13 (.array .int) true := ⟨RX7, TX7, 31, clX7, by decide, lw_good_of 714 (by decide +kernel) (by decide +kernel), by decide +kernel, rfl, rfl⟩
set_option maxRecDepth 20000 in
theorem flX7_47 : tFd RX7 47 7 14 (.array .int) true := ⟨RX7, TX7, 31, clX7, by decide, lw_good_of 715 (by decide +kernel) (by decide +kernel), by decide +kernel, rfl, rfl⟩
set_option maxRecDepth 20000 in
theorem flX7_50 : tFd RX7 50 7 15 (.array .int) true := ⟨RX7, TX7, 31, clX7, by decide, lw_good_of 716 (by decide +kernel) (by decide +kernel), by decide +kernel, rfl, rfl⟩
set_option maxRecDepth 20000 in
theorem flX7_53 : tFd RX7 53 7 16 (.array .boolean) true := ⟨RX7, TX7, 31, clX7, by decide, lw_good_of 717 (by decide +kernel) (by decide +kernel), by decide +kernel, rfl, rfl⟩
set_option maxRecDepth 20000 in
theorem flX7_107 : tFd RX7 107 7 17 .int false := ⟨RX7, TX7, 31, clX7, by decide, lw_good_of 718 (by decide +kernel) (by decide +kernel), by decide +kernel, rfl, rfl⟩
set_option maxRecDepth 20000 in
theorem flX7_56 : tFd RX7 56 7 18 (.array .int) true := ⟨RX7, TX7, 31, clX7, by decide, lw_good_of 719 (by decide +kernel) (by decide +kernel), by decide +kernel, rfl, rfl⟩
set_option maxRecDepth 20000 in
theorem flX7_59 : tFd RX7 59 7 19 (.array .int) true := ⟨RX7, TX7, 31, clX7, by decide, lw_good_of 720 (by decide +kernel) (by decide +kernel), by decide +kernel, rfl, rfl⟩
set_option maxRecDepth 20000 in
theorem flX7_62 : tFd RX7 62 7 20 (.array .int) true := ⟨RX7, TX7, 31, clX7, by decide, lw_good_of 721 (by decide +kernel) (by decide +kernel), by decide +kernel, rfl, rfl⟩
set_option maxRecDepth 20000 in
theorem flX7_65 : tFd RX7 65 7 21 (.array .int) true := ⟨RX7, TX7, 31, clX7, by decide, lw_good_of 722 (by decide +kernel) (by decide +kernel), by decide +kernel, rfl, rfl⟩
set_option maxRecDepth 20000 in
theorem flX7_68 : tFd RX7 68 7 22 (.array .int) true := ⟨RX7, TX7, 31, clX7, by decide, lw_good_of 723 (by decide +kernel) (by decide +kernel), by decide +kernel, rfl, rfl⟩
set_option maxRecDepth 20000 in
theorem flX7_71 : tFd RX7 71 7 23 (.array .int) true := ⟨RX7, TX7, 31, clX7, by decide, lw_good_of 724 (by decide +kernel) (by decide +kernel), by decide +kernel, rfl, rfl⟩
set_option maxRecDepth 20000 in
theorem flX7_218 : tFd RX7 218 7 24 .int false := ⟨RX7, TX7, 31, clX7, by decide, lw_good_of 725 (by decide +kernel) (by decide +kernel), by decide +kernel, rfl, rfl⟩
set_option maxRecDepth 20000 in
theorem flX7_74 : tFd RX7 74 7 25 (.array .int) true := ⟨RX7, TX7, 31, clX7, by decide, lw_good_of 726 (by decide +kernel) (by decide +kernel), by decide +kernel, rfl, rfl⟩
set_option maxRecDepth 20000 in
theorem flX7_77 : tFd RX7 77 7 26 (.array .int) true := ⟨RX7, TX7, 31, clX7, by decide, lw_good_of 727 (by decide +kernel) (by decide +kernel), by decide +kernel, rfl, rfl⟩
set_option maxRecDepth 20000 in
theorem flX7_80 : tFd RX7 80 7 27 (.array .int) true := ⟨RX7, TX7, 31, clX7, by decide, lw_good_of 728 (by decide +kernel) (by decide +kernel), by decide +kernel, rfl, rfl⟩
set_option maxRecDepth 20000 in
theorem flX7_83 : tFd RX7 83 7 28 (.array .int) true := ⟨RX7, TX7, 31, clX7, by decide, lw_good_of 729 (by decide +kernel) (by decide +kernel), by decide +kernel, rfl, rfl⟩
set_option maxRecDepth 20000 in
theorem flX7_86 : tFd RX7 86 7 29 (.array .int) true := ⟨RX7, TX7, 31, clX7, by decide, lw_good_of 730 (by decide +kernel) (by decide +kernel), by decide +kernel, rfl, rfl⟩
set_option maxRecDepth 20000 in
theorem flX7_89 : tFd RX7 89 7 30 (.array .int) true := ⟨RX7, TX7, 31, clX7, by decide, lw_good_of 731 (by decide +kernel) (by decide +kernel), by decide +kernel, rfl, rfl⟩
-- other: methodLink "LabelNet" 1 <"java/lang/Object"."<init>"."()V">
-- other: methodLink "LabelNet$Message" 3 <"java/lang/Object"."<init>"."()V">
-- other: methodLink "LabelNet" 39 <"java/lang/Math"."min"."(II)I">
-- other: methodLink "LabelNet" 45 <"java/lang/Math"."max"."(II)I">
set_option maxRecDepth 20000 in
theorem lkX6_54 : tLk RX6 54 yX4_init cX4_init 4 none 1 := ⟨lw_good_of 129 (by decide +kernel) (by decide +kernel), lw_good_of 65 (by decide +kernel) (by decide +kernel), lw_good_of 131 (by decide +kernel) (by decide +kernel), by decide +kernel⟩
-- other: methodLink "LabelNet$Router" 3 <"java/lang/Object"."<init>"."()V">
set_option maxRecDepth 20000 in
theorem lkX4_45 : tLk RX4 45 yX5_init cX5_init 5 none 4 := ⟨lw_good_of 138 (by decide +kernel) (by decide +kernel), lw_good_of 66 (by decide +kernel) (by decide +kernel), lw_good_of 140 (by decide +kernel) (by decide +kernel), by decide +kernel⟩
-- other: methodLink "LabelNet$RouterRecord" 1 <"java/lang/Object"."<init>"."()V">
set_option maxRecDepth 20000 in
theorem lkX4_48 : tLk RX4 48 yX4_forgetDistances cX4_forgetDistances 3 none 0 := ⟨lw_good_of 161 (by decide +kernel) (by decide +kernel), lw_good_of 65 (by decide +kernel) (by decide +kernel), lw_good_of 164 (by decide +kernel) (by decide +kernel), by decide +kernel⟩
set_option maxRecDepth 20000 in
theorem lkX4_51 : tLk RX4 51 yX4_forgetMapping cX4_forgetMapping 3 none 2 := ⟨lw_good_of 166 (by decide +kernel) (by decide +kernel), lw_good_of 65 (by decide +kernel) (by decide +kernel), lw_good_of 169 (by decide +kernel) (by decide +kernel), by decide +kernel⟩
set_option maxRecDepth 20000 in
theorem lkX6_57 : tLk RX6 57 yX0_init cX0_init 2 none 0 := ⟨lw_good_of 207 (by decide +kernel) (by decide +kernel), lw_good_of 67 (by decide +kernel) (by decide +kernel), lw_good_of 209 (by decide +kernel) (by decide +kernel), by decide +kernel⟩
-- other: methodLink "LabelNet$Link" 3 <"java/lang/Object"."<init>"."()V">
set_option maxRecDepth 20000 in
theorem lkX0_34 : tLk RX0 34 yX2_init cX2_init 2 none 0 := ⟨lw_good_of 214 (by decide +kernel) (by decide +kernel), lw_good_of 68 (by decide +kernel) (by decide +kernel), lw_good_of 216 (by decide +kernel) (by decide +kernel), by decide +kernel⟩
-- other: methodLink "LabelNet$MessageQueue" 3 <"java/lang/Object"."<init>"."()V">
set_option maxRecDepth 20000 in
theorem lkX6_58 : tLk RX6 58 yX6_isLink cX6_isLink 1 (some .boolean) 1 := ⟨lw_good_of 287 (by decide +kernel) (by decide +kernel), lw_good_of 62 (by decide +kernel) (by decide +kernel), lw_good_of 289 (by decide +kernel) (by decide +kernel), by decide +kernel⟩
set_option maxRecDepth 20000 in
theorem lkX6_117 : tLk RX6 117 yX6_isEnd cX6_isEnd 1 (some .boolean) 1 := ⟨lw_good_of 290 (by decide +kernel) (by decide +kernel), lw_good_of 62 (by decide +kernel) (by decide +kernel), lw_good_of 292 (by decide +kernel) (by decide +kernel), by decide +kernel⟩
set_option maxRecDepth 20000 in
theorem lkX6_135 : tLk RX6 135 yX2_at cX2_at 2 (some (.object "LabelNet$Message")) 1 := ⟨lw_good_of 293 (by decide +kernel) (by decide +kernel), lw_good_of 68 (by decide +kernel) (by decide +kernel), lw_good_of 296 (by decide +kernel) (by decide +kernel), by decide +kernel⟩
set_option maxRecDepth 20000 in
theorem lkX6_173 : tLk RX6 173 yX1_shownKind cX1_shownKind 1 (some .int) 0 := ⟨lw_good_of 297 (by decide +kernel) (by decide +kernel), lw_good_of 63 (by decide +kernel) (by decide +kernel), lw_good_of 300 (by decide +kernel) (by decide +kernel), by decide +kernel⟩
set_option maxRecDepth 20000 in
theorem lkX6_62 : tLk RX6 62 yX6_isRouter cX6_isRouter 2 (some .boolean) 1 := ⟨lw_good_of 305 (by decide +kernel) (by decide +kernel), lw_good_of 62 (by decide +kernel) (by decide +kernel), lw_good_of 308 (by decide +kernel) (by decide +kernel), by decide +kernel⟩
set_option maxRecDepth 20000 in
theorem lkX6_199 : tLk RX6 199 yX6_hop cX6_hop 6 (some .int) 2 := ⟨lw_good_of 314 (by decide +kernel) (by decide +kernel), lw_good_of 62 (by decide +kernel) (by decide +kernel), lw_good_of 317 (by decide +kernel) (by decide +kernel), by decide +kernel⟩
set_option maxRecDepth 20000 in
theorem lkX6_273 : tLk RX6 273 yX0_isUpAt cX0_isUpAt 2 (some .boolean) 1 := ⟨lw_good_of 318 (by decide +kernel) (by decide +kernel), lw_good_of 67 (by decide +kernel) (by decide +kernel), lw_good_of 321 (by decide +kernel) (by decide +kernel), by decide +kernel⟩
set_option maxRecDepth 20000 in
theorem lkX6_288 : tLk RX6 288 yX4_knowsUp cX4_knowsUp 3 (some .boolean) 2 := ⟨lw_good_of 322 (by decide +kernel) (by decide +kernel), lw_good_of 65 (by decide +kernel) (by decide +kernel), lw_good_of 325 (by decide +kernel) (by decide +kernel), by decide +kernel⟩
set_option maxRecDepth 20000 in
theorem lkX6_299 : tLk RX6 299 yX0_otherEnd cX0_otherEnd 2 (some .int) 1 := ⟨lw_good_of 326 (by decide +kernel) (by decide +kernel), lw_good_of 67 (by decide +kernel) (by decide +kernel), lw_good_of 329 (by decide +kernel) (by decide +kernel), by decide +kernel⟩
set_option maxRecDepth 20000 in
theorem lkX6_103 : tLk RX6 103 yX6_isPrefix cX6_isPrefix 1 (some .boolean) 1 := ⟨lw_good_of 334 (by decide +kernel) (by decide +kernel), lw_good_of 62 (by decide +kernel) (by decide +kernel), lw_good_of 336 (by decide +kernel) (by decide +kernel), by decide +kernel⟩
set_option maxRecDepth 20000 in
theorem lkX6_203 : tLk RX6 203 yX4_egress cX4_egress 4 (some .int) 1 := ⟨lw_good_of 337 (by decide +kernel) (by decide +kernel), lw_good_of 65 (by decide +kernel) (by decide +kernel), lw_good_of 340 (by decide +kernel) (by decide +kernel), by decide +kernel⟩
set_option maxRecDepth 20000 in
theorem lkX6_216 : tLk RX6 216 yX6_ofMapping cX6_ofMapping 6 (some .int) 4 := ⟨lw_good_of 341 (by decide +kernel) (by decide +kernel), lw_good_of 62 (by decide +kernel) (by decide +kernel), lw_good_of 344 (by decide +kernel) (by decide +kernel), by decide +kernel⟩
set_option maxRecDepth 20000 in
theorem lkX6_360 : tLk RX6 360 yX6_hopToEgress cX6_hopToEgress 4 (some .int) 2 := ⟨lw_good_of 345 (by decide +kernel) (by decide +kernel), lw_good_of 62 (by decide +kernel) (by decide +kernel), lw_good_of 348 (by decide +kernel) (by decide +kernel), by decide +kernel⟩
set_option maxRecDepth 20000 in
theorem lkX6_223 : tLk RX6 223 yX4_labelsInUse cX4_labelsInUse 3 (some .int) 0 := ⟨lw_good_of 353 (by decide +kernel) (by decide +kernel), lw_good_of 65 (by decide +kernel) (by decide +kernel), lw_good_of 356 (by decide +kernel) (by decide +kernel), by decide +kernel⟩
set_option maxRecDepth 20000 in
theorem lkX6_226 : tLk RX6 226 yX6_packetsUnderWay cX6_packetsUnderWay 3 (some .int) 0 := ⟨lw_good_of 357 (by decide +kernel) (by decide +kernel), lw_good_of 62 (by decide +kernel) (by decide +kernel), lw_good_of 360 (by decide +kernel) (by decide +kernel), by decide +kernel⟩
set_option maxRecDepth 20000 in
theorem lkX6_229 : tLk RX6 229 yX6_linksUp cX6_linksUp 3 (some .int) 0 := ⟨lw_good_of 361 (by decide +kernel) (by decide +kernel), lw_good_of 62 (by decide +kernel) (by decide +kernel), lw_good_of 364 (by decide +kernel) (by decide +kernel), by decide +kernel⟩
-- other: methodLink "LabelNet" 69 <"java/lang/IndexOutOfBoundsException"."<init>"."(Ljava/lang/String;)V">
-- other: methodLink "LabelNet" 80 <"java/lang/IllegalArgumentException"."<init>"."(Ljava/lang/String;)V">
set_option maxRecDepth 20000 in
theorem lkX6_97 : tLk RX6 97 yX6_comesUp cX6_comesUp 5 none 1 := ⟨lw_good_of 469 (by decide +kernel) (by decide +kernel), lw_good_of 62 (by decide +kernel) (by decide +kernel), lw_good_of 472 (by decide +kernel) (by decide +kernel), by decide +kernel⟩
set_option maxRecDepth 20000 in
theorem lkX6_110 : tLk RX6 110 yX6_tell cX6_tell 5 none 1 := ⟨lw_good_of 473 (by decide +kernel) (by decide +kernel), lw_good_of 62 (by decide +kernel) (by decide +kernel), lw_good_of 476 (by decide +kernel) (by decide +kernel), by decide +kernel⟩
set_option maxRecDepth 20000 in
theorem lkX6_252 : tLk RX6 252 yX6_linksUpAt cX6_linksUpAt 4 (some .int) 1 := ⟨lw_good_of 478 (by decide +kernel) (by decide +kernel), lw_good_of 62 (by decide +kernel) (by decide +kernel), lw_good_of 481 (by decide +kernel) (by decide +kernel), by decide +kernel⟩
set_option maxRecDepth 20000 in
theorem lkX6_255 : tLk RX6 255 yX6_prefixesAt cX6_prefixesAt 4 (some .int) 1 := ⟨lw_good_of 482 (by decide +kernel) (by decide +kernel), lw_good_of 62 (by decide +kernel) (by decide +kernel), lw_good_of 485 (by decide +kernel) (by decide +kernel), by decide +kernel⟩
set_option maxRecDepth 20000 in
theorem lkX6_258 : tLk RX6 258 yX5_init cX5_init 5 none 4 := ⟨lw_good_of 486 (by decide +kernel) (by decide +kernel), lw_good_of 66 (by decide +kernel) (by decide +kernel), lw_good_of 140 (by decide +kernel) (by decide +kernel), by decide +kernel⟩
set_option maxRecDepth 20000 in
theorem lkX6_261 : tLk RX6 261 yX6_learn cX6_learn 5 none 2 := ⟨lw_good_of 487 (by decide +kernel) (by decide +kernel), lw_good_of 62 (by decide +kernel) (by decide +kernel), lw_good_of 490 (by decide +kernel) (by decide +kernel), by decide +kernel⟩
set_option maxRecDepth 20000 in
theorem lkX6_285 : tLk RX6 285 yX4_forgetDistances cX4_forgetDistances 3 none 0 := ⟨lw_good_of 491 (by decide +kernel) (by decide +kernel), lw_good_of 65 (by decide +kernel) (by decide +kernel), lw_good_of 164 (by decide +kernel) (by decide +kernel), by decide +kernel⟩
set_option maxRecDepth 20000 in
theorem lkX6_292 : tLk RX6 292 yX4_takeStep cX4_takeStep 5 none 3 := ⟨lw_good_of 492 (by decide +kernel) (by decide +kernel), lw_good_of 65 (by decide +kernel) (by decide +kernel), lw_good_of 495 (by decide +kernel) (by decide +kernel), by decide +kernel⟩
-- other: methodLink "LabelNet$Router" 59 <"java/lang/Math"."min"."(II)I">
set_option maxRecDepth 20000 in
theorem lkX6_296 : tLk RX6 296 yX4_joinSteps cX4_joinSteps 3 none 0 := ⟨lw_good_of 497 (by decide +kernel) (by decide +kernel), lw_good_of 65 (by decide +kernel) (by decide +kernel), lw_good_of 500 (by decide +kernel) (by decide +kernel), by decide +kernel⟩
set_option maxRecDepth 20000 in
theorem lkX4_65 : tLk RX4 65 yX4_joinAt cX4_joinAt 4 none 2 := ⟨lw_good_of 501 (by decide +kernel) (by decide +kernel), lw_good_of 65 (by decide +kernel) (by decide +kernel), lw_good_of 504 (by decide +kernel) (by decide +kernel), by decide +kernel⟩
set_option maxRecDepth 20000 in
theorem lkX6_265 : tLk RX6 265 yX1_asNote cX1_asNote 2 (some (.object "LabelNet$Message")) 1 := ⟨lw_good_of 505 (by decide +kernel) (by decide +kernel), lw_good_of 63 (by decide +kernel) (by decide +kernel), lw_good_of 508 (by decide +kernel) (by decide +kernel), by decide +kernel⟩
set_option maxRecDepth 20000 in
theorem lkX1_36 : tLk RX1 36 yX1_as cX1_as 5 (some (.object "LabelNet$Message")) 4 := ⟨lw_good_of 509 (by decide +kernel) (by decide +kernel), lw_good_of 63 (by decide +kernel) (by decide +kernel), lw_good_of 512 (by decide +kernel) (by decide +kernel), by decide +kernel⟩
set_option maxRecDepth 20000 in
theorem lkX6_269 : tLk RX6 269 yX6_sendOnAll cX6_sendOnAll 5 none 3 := ⟨lw_good_of 513 (by decide +kernel) (by decide +kernel), lw_good_of 62 (by decide +kernel) (by decide +kernel), lw_good_of 516 (by decide +kernel) (by decide +kernel), by decide +kernel⟩
set_option maxRecDepth 20000 in
theorem lkX6_276 : tLk RX6 276 yX6_put cX6_put 5 (some .boolean) 3 := ⟨lw_good_of 517 (by decide +kernel) (by decide +kernel), lw_good_of 62 (by decide +kernel) (by decide +kernel), lw_good_of 520 (by decide +kernel) (by decide +kernel), by decide +kernel⟩
set_option maxRecDepth 20000 in
theorem lkX6_302 : tLk RX6 302 yX4_isOwnLabel cX4_isOwnLabel 1 (some .boolean) 1 := ⟨lw_good_of 521 (by decide +kernel) (by decide +kernel), lw_good_of 65 (by decide +kernel) (by decide +kernel), lw_good_of 523 (by decide +kernel) (by decide +kernel), by decide +kernel⟩
set_option maxRecDepth 20000 in
theorem lkX6_308 : tLk RX6 308 yX0_queueOf cX0_queueOf 2 (some (.object "LabelNet$MessageQueue")) 1 := ⟨lw_good_of 524 (by decide +kernel) (by decide +kernel), lw_good_of 67 (by decide +kernel) (by decide +kernel), lw_good_of 527 (by decide +kernel) (by decide +kernel), by decide +kernel⟩
set_option maxRecDepth 20000 in
theorem lkX6_312 : tLk RX6 312 yX2_nextFree cX2_nextFree 1 (some (.object "LabelNet$Message")) 0 := ⟨lw_good_of 528 (by decide +kernel) (by decide +kernel), lw_good_of 68 (by decide +kernel) (by decide +kernel), lw_good_of 531 (by decide +kernel) (by decide +kernel), by decide +kernel⟩
set_option maxRecDepth 20000 in
theorem lkX6_316 : tLk RX6 316 yX1_copy cX1_copy 2 none 1 := ⟨lw_good_of 532 (by decide +kernel) (by decide +kernel), lw_good_of 63 (by decide +kernel) (by decide +kernel), lw_good_of 535 (by decide +kernel) (by decide +kernel), by decide +kernel⟩
set_option maxRecDepth 20000 in
theorem lkX6_232 : tLk RX6 232 yX6_putKnownNotes cX6_putKnownNotes 5 none 2 := ⟨lw_good_of 536 (by decide +kernel) (by decide +kernel), lw_good_of 62 (by decide +kernel) (by decide +kernel), lw_good_of 539 (by decide +kernel) (by decide +kernel), by decide +kernel⟩
set_option maxRecDepth 20000 in
theorem lkX6_236 : tLk RX6 236 yX6_putMappings cX6_putMappings 4 none 2 := ⟨lw_good_of 540 (by decide +kernel) (by decide +kernel), lw_good_of 62 (by decide +kernel) (by decide +kernel), lw_good_of 543 (by decide +kernel) (by decide +kernel), by decide +kernel⟩
set_option maxRecDepth 20000 in
theorem lkX6_280 : tLk RX6 280 yX1_as cX1_as 5 (some (.object "LabelNet$Message")) 4 := ⟨lw_good_of 544 (by decide +kernel) (by decide +kernel), lw_good_of 63 (by decide +kernel) (by decide +kernel), lw_good_of 512 (by decide +kernel) (by decide +kernel), by decide +kernel⟩
set_option maxRecDepth 20000 in
theorem lkX6_114 : tLk RX6 114 yX6_check cX6_check 3 none 1 := ⟨lw_good_of 545 (by decide +kernel) (by decide +kernel), lw_good_of 62 (by decide +kernel) (by decide +kernel), lw_good_of 548 (by decide +kernel) (by decide +kernel), by decide +kernel⟩
set_option maxRecDepth 20000 in
theorem lkX6_345 : tLk RX6 345 yX6_checkPrefix cX6_checkPrefix 7 none 2 := ⟨lw_good_of 549 (by decide +kernel) (by decide +kernel), lw_good_of 62 (by decide +kernel) (by decide +kernel), lw_good_of 552 (by decide +kernel) (by decide +kernel), by decide +kernel⟩
set_option maxRecDepth 20000 in
theorem lkX6_348 : tLk RX6 348 yX6_pathNow cX6_pathNow 5 (some .int) 2 := ⟨lw_good_of 553 (by decide +kernel) (by decide +kernel), lw_good_of 62 (by decide +kernel) (by decide +kernel), lw_good_of 556 (by decide +kernel) (by decide +kernel), by decide +kernel⟩
set_option maxRecDepth 20000 in
theorem lkX6_351 : tLk RX6 351 yX4_labelFor cX4_labelFor 3 (some .int) 2 := ⟨lw_good_of 557 (by decide +kernel) (by decide +kernel), lw_good_of 65 (by decide +kernel) (by decide +kernel), lw_good_of 560 (by decide +kernel) (by decide +kernel), by decide +kernel⟩
set_option maxRecDepth 20000 in
theorem lkX4_75 : tLk RX4 75 yX4_leastFreeLabel cX4_leastFreeLabel 2 (some .int) 0 := ⟨lw_good_of 561 (by decide +kernel) (by decide +kernel), lw_good_of 65 (by decide +kernel) (by decide +kernel), lw_good_of 564 (by decide +kernel) (by decide +kernel), by decide +kernel⟩
set_option maxRecDepth 20000 in
theorem lkX6_354 : tLk RX6 354 yX4_bind cX4_bind 4 none 3 := ⟨lw_good_of 565 (by decide +kernel) (by decide +kernel), lw_good_of 65 (by decide +kernel) (by decide +kernel), lw_good_of 568 (by decide +kernel) (by decide +kernel), by decide +kernel⟩
set_option maxRecDepth 20000 in
theorem lkX4_79 : tLk RX4 79 yX4_isOwnLabel cX4_isOwnLabel 1 (some .boolean) 1 := ⟨lw_good_of 569 (by decide +kernel) (by decide +kernel), lw_good_of 65 (by decide +kernel) (by decide +kernel), lw_good_of 523 (by decide +kernel) (by decide +kernel), by decide +kernel⟩
set_option maxRecDepth 20000 in
theorem lkX6_357 : tLk RX6 357 yX4_freeIfReleased cX4_freeIfReleased 2 none 1 := ⟨lw_good_of 570 (by decide +kernel) (by decide +kernel), lw_good_of 65 (by decide +kernel) (by decide +kernel), lw_good_of 573 (by decide +kernel) (by decide +kernel), by decide +kernel⟩
set_option maxRecDepth 20000 in
theorem lkX6_100 : tLk RX6 100 yX6_goesDown cX6_goesDown 5 none 1 := ⟨lw_good_of 574 (by decide +kernel) (by decide +kernel), lw_good_of 62 (by decide +kernel) (by decide +kernel), lw_good_of 577 (by decide +kernel) (by decide +kernel), by decide +kernel⟩
set_option maxRecDepth 20000 in
theorem lkX6_239 : tLk RX6 239 yX6_cut cX6_cut 4 none 1 := ⟨lw_good_of 578 (by decide +kernel) (by decide +kernel), lw_good_of 62 (by decide +kernel) (by decide +kernel), lw_good_of 581 (by decide +kernel) (by decide +kernel), by decide +kernel⟩
set_option maxRecDepth 20000 in
theorem lkX6_243 : tLk RX6 243 yX4_forgetLink cX4_forgetLink 3 none 1 := ⟨lw_good_of 582 (by decide +kernel) (by decide +kernel), lw_good_of 65 (by decide +kernel) (by decide +kernel), lw_good_of 585 (by decide +kernel) (by decide +kernel), by decide +kernel⟩
set_option maxRecDepth 20000 in
theorem lkX4_71 : tLk RX4 71 yX4_freeIfReleased cX4_freeIfReleased 2 none 1 := ⟨lw_good_of 586 (by decide +kernel) (by decide +kernel), lw_good_of 65 (by decide +kernel) (by decide +kernel), lw_good_of 573 (by decide +kernel) (by decide +kernel), by decide +kernel⟩
set_option maxRecDepth 20000 in
theorem lkX6_122 : tLk RX6 122 yX6_handOver cX6_handOver 7 (some .int) 2 := ⟨lw_good_of 604 (by decide +kernel) (by decide +kernel), lw_good_of 62 (by decide +kernel) (by decide +kernel), lw_good_of 607 (by decide +kernel) (by decide +kernel), by decide +kernel⟩
set_option maxRecDepth 20000 in
theorem lkX6_320 : tLk RX6 320 yX2_dropFirst cX2_dropFirst 1 none 0 := ⟨lw_good_of 608 (by decide +kernel) (by decide +kernel), lw_good_of 68 (by decide +kernel) (by decide +kernel), lw_good_of 611 (by decide +kernel) (by decide +kernel), by decide +kernel⟩
set_option maxRecDepth 20000 in
theorem lkX6_327 : tLk RX6 327 yX6_noteComes cX6_noteComes 5 (some .boolean) 3 := ⟨lw_good_of 612 (by decide +kernel) (by decide +kernel), lw_good_of 62 (by decide +kernel) (by decide +kernel), lw_good_of 615 (by decide +kernel) (by decide +kernel), by decide +kernel⟩
set_option maxRecDepth 20000 in
theorem lkX6_331 : tLk RX6 331 yX6_mappingComes cX6_mappingComes 5 none 3 := ⟨lw_good_of 616 (by decide +kernel) (by decide +kernel), lw_good_of 62 (by decide +kernel) (by decide +kernel), lw_good_of 619 (by decide +kernel) (by decide +kernel), by decide +kernel⟩
set_option maxRecDepth 20000 in
theorem lkX6_342 : tLk RX6 342 yX4_forgetMapping cX4_forgetMapping 3 none 2 := ⟨lw_good_of 620 (by decide +kernel) (by decide +kernel), lw_good_of 65 (by decide +kernel) (by decide +kernel), lw_good_of 169 (by decide +kernel) (by decide +kernel), by decide +kernel⟩
set_option maxRecDepth 20000 in
theorem lkX6_335 : tLk RX6 335 yX6_withdrawComes cX6_withdrawComes 5 none 3 := ⟨lw_good_of 621 (by decide +kernel) (by decide +kernel), lw_good_of 62 (by decide +kernel) (by decide +kernel), lw_good_of 624 (by decide +kernel) (by decide +kernel), by decide +kernel⟩
set_option maxRecDepth 20000 in
theorem lkX6_338 : tLk RX6 338 yX4_releaseCounts cX4_releaseCounts 4 (some .boolean) 3 := ⟨lw_good_of 625 (by decide +kernel) (by decide +kernel), lw_good_of 65 (by decide +kernel) (by decide +kernel), lw_good_of 628 (by decide +kernel) (by decide +kernel), by decide +kernel⟩
set_option maxRecDepth 20000 in
theorem lkX6_151 : tLk RX6 151 yX6_packetComes cX6_packetComes 6 none 3 := ⟨lw_good_of 629 (by decide +kernel) (by decide +kernel), lw_good_of 62 (by decide +kernel) (by decide +kernel), lw_good_of 632 (by decide +kernel) (by decide +kernel), by decide +kernel⟩
set_option maxRecDepth 20000 in
theorem lkX6_363 : tLk RX6 363 yX4_prefixOfLabel cX4_prefixOfLabel 3 (some .int) 1 := ⟨lw_good_of 633 (by decide +kernel) (by decide +kernel), lw_good_of 65 (by decide +kernel) (by decide +kernel), lw_good_of 636 (by decide +kernel) (by decide +kernel), by decide +kernel⟩
set_option maxRecDepth 20000 in
theorem lkX6_366 : tLk RX6 366 yX6_go cX6_go 8 none 3 := ⟨lw_good_of 637 (by decide +kernel) (by decide +kernel), lw_good_of 62 (by decide +kernel) (by decide +kernel), lw_good_of 640 (by decide +kernel) (by decide +kernel), by decide +kernel⟩
set_option maxRecDepth 20000 in
theorem lkX6_127 : tLk RX6 127 yX6_firstThatWaits cX6_firstThatWaits 3 (some .int) 0 := ⟨lw_good_of 649 (by decide +kernel) (by decide +kernel), lw_good_of 62 (by decide +kernel) (by decide +kernel), lw_good_of 652 (by decide +kernel) (by decide +kernel), by decide +kernel⟩
set_option maxRecDepth 20000 in
theorem lkX6_148 : tLk RX6 148 yX3_init cX3_init 3 none 2 := ⟨lw_good_of 670 (by decide +kernel) (by decide +kernel), lw_good_of 75 (by decide +kernel) (by decide +kernel), lw_good_of 672 (by decide +kernel) (by decide +kernel), by decide +kernel⟩
-- other: methodLink "LabelNet$Packet" 3 <"java/lang/Object"."<init>"."()V">
-- other: methodLink "LabelNetModel" 1 <"java/lang/Object"."<init>"."()V">
set_option maxRecDepth 20000 in
theorem lkX7_99 : tLk RX7 99 yX7_in cX7_in 2 (some .boolean) 2 := ⟨lw_good_of 804 (by decide +kernel) (by decide +kernel), lw_good_of 69 (by decide +kernel) (by decide +kernel), lw_good_of 806 (by decide +kernel) (by decide +kernel), by decide +kernel⟩
set_option maxRecDepth 20000 in
theorem lkX7_189 : tLk RX7 189 yX7_isRouter cX7_isRouter 2 (some .boolean) 1 := ⟨lw_good_of 807 (by decide +kernel) (by decide +kernel), lw_good_of 69 (by decide +kernel) (by decide +kernel), lw_good_of 810 (by decide +kernel) (by decide +kernel), by decide +kernel⟩
set_option maxRecDepth 20000 in
theorem lkX7_193 : tLk RX7 193 yX7_goes cX7_goes 3 (some .boolean) 2 := ⟨lw_good_of 811 (by decide +kernel) (by decide +kernel), lw_good_of 69 (by decide +kernel) (by decide +kernel), lw_good_of 814 (by decide +kernel) (by decide +kernel), by decide +kernel⟩
set_option maxRecDepth 20000 in
theorem lkX7_197 : tLk RX7 197 yX7_empty cX7_empty 3 none 1 := ⟨lw_good_of 819 (by decide +kernel) (by decide +kernel), lw_good_of 69 (by decide +kernel) (by decide +kernel), lw_good_of 822 (by decide +kernel) (by decide +kernel), by decide +kernel⟩
set_option maxRecDepth 20000 in
theorem lkX7_200 : tLk RX7 200 yX7_tell cX7_tell 5 none 1 := ⟨lw_good_of 823 (by decide +kernel) (by decide +kernel), lw_good_of 69 (by decide +kernel) (by decide +kernel), lw_good_of 826 (by decide +kernel) (by decide +kernel), by decide +kernel⟩
set_option maxRecDepth 20000 in
theorem lkX7_110 : tLk RX7 110 yX7_isUp cX7_isUp 3 (some .boolean) 2 := ⟨lw_good_of 827 (by decide +kernel) (by decide +kernel), lw_good_of 69 (by decide +kernel) (by decide +kernel), lw_good_of 830 (by decide +kernel) (by decide +kernel), by decide +kernel⟩
set_option maxRecDepth 20000 in
theorem lkX7_117 : tLk RX7 117 yX7_bodyOf cX7_bodyOf 3 (some .int) 2 := ⟨lw_good_of 831 (by decide +kernel) (by decide +kernel), lw_good_of 69 (by decide +kernel) (by decide +kernel), lw_good_of 834 (by decide +kernel) (by decide +kernel), by decide +kernel⟩
set_option maxRecDepth 20000 in
theorem lkX7_121 : tLk RX7 121 yX7_sendAll cX7_sendAll 8 none 6 := ⟨lw_good_of 835 (by decide +kernel) (by decide +kernel), lw_good_of 69 (by decide +kernel) (by decide +kernel), lw_good_of 838 (by decide +kernel) (by decide +kernel), by decide +kernel⟩
set_option maxRecDepth 20000 in
theorem lkX7_113 : tLk RX7 113 yX7_send cX7_send 7 none 6 := ⟨lw_good_of 839 (by decide +kernel) (by decide +kernel), lw_good_of 69 (by decide +kernel) (by decide +kernel), lw_good_of 842 (by decide +kernel) (by decide +kernel), by decide +kernel⟩
set_option maxRecDepth 20000 in
theorem lkX7_103 : tLk RX7 103 yX7_put cX7_put 9 (some .boolean) 6 := ⟨lw_good_of 843 (by decide +kernel) (by decide +kernel), lw_good_of 69 (by decide +kernel) (by decide +kernel), lw_good_of 846 (by decide +kernel) (by decide +kernel), by decide +kernel⟩
set_option maxRecDepth 20000 in
theorem lkX7_203 : tLk RX7 203 yX7_showNotes cX7_showNotes 4 none 2 := ⟨lw_good_of 847 (by decide +kernel) (by decide +kernel), lw_good_of 69 (by decide +kernel) (by decide +kernel), lw_good_of 850 (by decide +kernel) (by decide +kernel), by decide +kernel⟩
set_option maxRecDepth 20000 in
theorem lkX7_206 : tLk RX7 206 yX7_showMappings cX7_showMappings 4 none 2 := ⟨lw_good_of 851 (by decide +kernel) (by decide +kernel), lw_good_of 69 (by decide +kernel) (by decide +kernel), lw_good_of 854 (by decide +kernel) (by decide +kernel), by decide +kernel⟩
set_option maxRecDepth 20000 in
theorem lkX7_209 : tLk RX7 209 yX7_sever cX7_sever 4 none 2 := ⟨lw_good_of 855 (by decide +kernel) (by decide +kernel), lw_good_of 69 (by decide +kernel) (by decide +kernel), lw_good_of 858 (by decide +kernel) (by decide +kernel), by decide +kernel⟩
set_option maxRecDepth 20000 in
theorem lkX7_145 : tLk RX7 145 yX7_slot cX7_slot 4 (some .int) 3 := ⟨lw_good_of 859 (by decide +kernel) (by decide +kernel), lw_good_of 69 (by decide +kernel) (by decide +kernel), lw_good_of 862 (by decide +kernel) (by decide +kernel), by decide +kernel⟩
set_option maxRecDepth 20000 in
theorem lkX7_135 : tLk RX7 135 yX7_settle cX7_settle 4 none 2 := ⟨lw_good_of 863 (by decide +kernel) (by decide +kernel), lw_good_of 69 (by decide +kernel) (by decide +kernel), lw_good_of 866 (by decide +kernel) (by decide +kernel), by decide +kernel⟩
set_option maxRecDepth 20000 in
theorem lkX7_170 : tLk RX7 170 yX7_check cX7_check 3 none 1 := ⟨lw_good_of 867 (by decide +kernel) (by decide +kernel), lw_good_of 69 (by decide +kernel) (by decide +kernel), lw_good_of 870 (by decide +kernel) (by decide +kernel), by decide +kernel⟩
set_option maxRecDepth 20000 in
theorem lkX7_163 : tLk RX7 163 yX7_measure cX7_measure 5 none 1 := ⟨lw_good_of 871 (by decide +kernel) (by decide +kernel), lw_good_of 69 (by decide +kernel) (by decide +kernel), lw_good_of 874 (by decide +kernel) (by decide +kernel), by decide +kernel⟩
set_option maxRecDepth 20000 in
theorem lkX7_125 : tLk RX7 125 yX7_isStep cX7_isStep 3 (some .boolean) 2 := ⟨lw_good_of 876 (by decide +kernel) (by decide +kernel), lw_good_of 69 (by decide +kernel) (by decide +kernel), lw_good_of 879 (by decide +kernel) (by decide +kernel), by decide +kernel⟩
set_option maxRecDepth 20000 in
theorem lkX7_128 : tLk RX7 128 yX7_shorten cX7_shorten 4 none 3 := ⟨lw_good_of 880 (by decide +kernel) (by decide +kernel), lw_good_of 69 (by decide +kernel) (by decide +kernel), lw_good_of 883 (by decide +kernel) (by decide +kernel), by decide +kernel⟩
set_option maxRecDepth 20000 in
theorem lkX7_167 : tLk RX7 167 yX7_checkOne cX7_checkOne 7 none 2 := ⟨lw_good_of 884 (by decide +kernel) (by decide +kernel), lw_good_of 69 (by decide +kernel) (by decide +kernel), lw_good_of 887 (by decide +kernel) (by decide +kernel), by decide +kernel⟩
set_option maxRecDepth 20000 in
theorem lkX7_149 : tLk RX7 149 yX7_byHop cX7_byHop 5 (some .int) 2 := ⟨lw_good_of 888 (by decide +kernel) (by decide +kernel), lw_good_of 69 (by decide +kernel) (by decide +kernel), lw_good_of 891 (by decide +kernel) (by decide +kernel), by decide +kernel⟩
set_option maxRecDepth 20000 in
theorem lkX7_139 : tLk RX7 139 yX7_egress cX7_egress 4 (some .int) 2 := ⟨lw_good_of 892 (by decide +kernel) (by decide +kernel), lw_good_of 69 (by decide +kernel) (by decide +kernel), lw_good_of 895 (by decide +kernel) (by decide +kernel), by decide +kernel⟩
set_option maxRecDepth 20000 in
theorem lkX7_142 : tLk RX7 142 yX7_hop cX7_hop 4 (some .int) 2 := ⟨lw_good_of 896 (by decide +kernel) (by decide +kernel), lw_good_of 69 (by decide +kernel) (by decide +kernel), lw_good_of 899 (by decide +kernel) (by decide +kernel), by decide +kernel⟩
set_option maxRecDepth 20000 in
theorem lkX7_132 : tLk RX7 132 yX7_other cX7_other 3 (some .int) 2 := ⟨lw_good_of 900 (by decide +kernel) (by decide +kernel), lw_good_of 69 (by decide +kernel) (by decide +kernel), lw_good_of 903 (by decide +kernel) (by decide +kernel), by decide +kernel⟩
set_option maxRecDepth 20000 in
theorem lkX7_152 : tLk RX7 152 yX7_withdraw cX7_withdraw 4 none 2 := ⟨lw_good_of 904 (by decide +kernel) (by decide +kernel), lw_good_of 69 (by decide +kernel) (by decide +kernel), lw_good_of 907 (by decide +kernel) (by decide +kernel), by decide +kernel⟩
set_option maxRecDepth 20000 in
theorem lkX7_155 : tLk RX7 155 yX7_become cX7_become 5 none 4 := ⟨lw_good_of 908 (by decide +kernel) (by decide +kernel), lw_good_of 69 (by decide +kernel) (by decide +kernel), lw_good_of 911 (by decide +kernel) (by decide +kernel), by decide +kernel⟩
set_option maxRecDepth 20000 in
theorem lkX7_159 : tLk RX7 159 yX7_free cX7_free 3 (some .int) 1 := ⟨lw_good_of 912 (by decide +kernel) (by decide +kernel), lw_good_of 69 (by decide +kernel) (by decide +kernel), lw_good_of 915 (by decide +kernel) (by decide +kernel), by decide +kernel⟩
set_option maxRecDepth 20000 in
theorem lkX7_212 : tLk RX7 212 yX7_isEnd cX7_isEnd 2 (some .boolean) 2 := ⟨lw_good_of 924 (by decide +kernel) (by decide +kernel), lw_good_of 69 (by decide +kernel) (by decide +kernel), lw_good_of 926 (by decide +kernel) (by decide +kernel), by decide +kernel⟩
set_option maxRecDepth 20000 in
theorem lkX7_215 : tLk RX7 215 yX7_come cX7_come 11 (some .int) 1 := ⟨lw_good_of 927 (by decide +kernel) (by decide +kernel), lw_good_of 69 (by decide +kernel) (by decide +kernel), lw_good_of 930 (by decide +kernel) (by decide +kernel), by decide +kernel⟩
set_option maxRecDepth 20000 in
theorem lkX7_173 : tLk RX7 173 yX7_noted cX7_noted 7 none 5 := ⟨lw_good_of 931 (by decide +kernel) (by decide +kernel), lw_good_of 69 (by decide +kernel) (by decide +kernel), lw_good_of 934 (by decide +kernel) (by decide +kernel), by decide +kernel⟩
set_option maxRecDepth 20000 in
theorem lkX7_177 : tLk RX7 177 yX7_mapped cX7_mapped 7 none 5 := ⟨lw_good_of 935 (by decide +kernel) (by decide +kernel), lw_good_of 69 (by decide +kernel) (by decide +kernel), lw_good_of 938 (by decide +kernel) (by decide +kernel), by decide +kernel⟩
set_option maxRecDepth 20000 in
theorem lkX7_180 : tLk RX7 180 yX7_withdrawn cX7_withdrawn 5 none 4 := ⟨lw_good_of 939 (by decide +kernel) (by decide +kernel), lw_good_of 69 (by decide +kernel) (by decide +kernel), lw_good_of 942 (by decide +kernel) (by decide +kernel), by decide +kernel⟩
set_option maxRecDepth 20000 in
theorem lkX7_183 : tLk RX7 183 yX7_released cX7_released 5 none 4 := ⟨lw_good_of 943 (by decide +kernel) (by decide +kernel), lw_good_of 69 (by decide +kernel) (by decide +kernel), lw_good_of 946 (by decide +kernel) (by decide +kernel), by decide +kernel⟩
set_option maxRecDepth 20000 in
theorem lkX7_186 : tLk RX7 186 yX7_go cX7_go 8 none 3 := ⟨lw_good_of 947 (by decide +kernel) (by decide +kernel), lw_good_of 69 (by decide +kernel) (by decide +kernel), lw_good_of 950 (by decide +kernel) (by decide +kernel), by decide +kernel⟩
set_option maxRecDepth 20000 in
theorem lkX7_221 : tLk RX7 221 yX7_asked cX7_asked 4 (some .int) 3 := ⟨lw_good_of 983 (by decide +kernel) (by decide +kernel), lw_good_of 69 (by decide +kernel) (by decide +kernel), lw_good_of 986 (by decide +kernel) (by decide +kernel), by decide +kernel⟩
set_option maxRecDepth 20000 in
theorem imX0_init : Cond.instanceMethod yX0_init ∈ lw_good := lw_good_of 208 (by decide +kernel) (by decide +kernel)
set_option maxRecDepth 20000 in
theorem cwX0_init : Cond.code yX0_init cX0_init 2 none ∈ lw_good := lw_good_of 209 (by decide +kernel) (by decide +kernel)
set_option maxRecDepth 20000 in
theorem imX0_isUpAt : Cond.instanceMethod yX0_isUpAt ∈ lw_good := lw_good_of 319 (by decide +kernel) (by decide +kernel)
set_option maxRecDepth 20000 in
theorem seX0_isUpAt : Cond.selects yX0_isUpAt.cls yX0_isUpAt yX0_isUpAt ∈ lw_good := lw_good_of 320 (by decide +kernel) (by decide +kernel)
set_option maxRecDepth 20000 in
theorem cwX0_isUpAt : Cond.code yX0_isUpAt cX0_isUpAt 2 (some .boolean) ∈ lw_good := lw_good_of 321 (by decide +kernel) (by decide +kernel)
set_option maxRecDepth 20000 in
theorem imX0_otherEnd : Cond.instanceMethod yX0_otherEnd ∈ lw_good := lw_good_of 327 (by decide +kernel) (by decide +kernel)
set_option maxRecDepth 20000 in
theorem seX0_otherEnd : Cond.selects yX0_otherEnd.cls yX0_otherEnd yX0_otherEnd ∈ lw_good := lw_good_of 328 (by decide +kernel) (by decide +kernel)
set_option maxRecDepth 20000 in
theorem cwX0_otherEnd : Cond.code yX0_otherEnd cX0_otherEnd 2 (some .int) ∈ lw_good := lw_good_of 329 (by decide +kernel) (by decide +kernel)
set_option maxRecDepth 20000 in
theorem imX0_queueOf : Cond.instanceMethod yX0_queueOf ∈ lw_good := lw_good_of 525 (by decide +kernel) (by decide +kernel)
set_option maxRecDepth 20000 in
theorem seX0_queueOf : Cond.selects yX0_queueOf.cls yX0_queueOf yX0_queueOf ∈ lw_good := lw_good_of 526 (by decide +kernel) (by decide +kernel)
set_option maxRecDepth 20000 in
theorem cwX0_queueOf : Cond.code yX0_queueOf cX0_queueOf 2 (some (.object "LabelNet$MessageQueue")) ∈ lw_good := lw_good_of 527 (by decide +kernel) (by decide +kernel)
set_option maxRecDepth 20000 in
theorem imX1_init : Cond.instanceMethod yX1_init ∈ lw_good := lw_good_of 91 (by decide +kernel) (by decide +kernel)
set_option maxRecDepth 20000 in
theorem cwX1_init : Cond.code yX1_init cX1_init 1 none ∈ lw_good := lw_good_of 92 (by decide +kernel) (by decide +kernel)
set_option maxRecDepth 20000 in
theorem imX1_as : Cond.instanceMethod yX1_as ∈ lw_good := lw_good_of 510 (by decide +kernel) (by decide +kernel)
set_option maxRecDepth 20000 in
theorem seX1_as : Cond.selects yX1_as.cls yX1_as yX1_as ∈ lw_good := lw_good_of 511 (by decide +kernel) (by decide +kernel)
set_option maxRecDepth 20000 in
theorem cwX1_as : Cond.code yX1_as cX1_as 5 (some (.object "LabelNet$Message")) ∈ lw_good := lw_good_of 512 (by decide +kernel) (by decide +kernel)
set_option maxRecDepth 20000 in
theorem imX1_asNote : Cond.instanceMethod yX1_asNote ∈ lw_good := lw_good_of 506 (by decide +kernel) (by decide +kernel)
set_option maxRecDepth 20000 in
theorem seX1_asNote : Cond.selects yX1_asNote.cls yX1_asNote yX1_asNote ∈ lw_good := lw_good_of 507 (by decide +kernel) (by decide +kernel)
set_option maxRecDepth 20000 in
theorem cwX1_asNote : Cond.code yX1_asNote cX1_asNote 2 (some (.object "LabelNet$Message")) ∈ lw_good := lw_good_of 508 (by decide +kernel) (by decide +kernel)
set_option maxRecDepth 20000 in
theorem imX1_copy : Cond.instanceMethod yX1_copy ∈ lw_good := lw_good_of 533 (by decide +kernel) (by decide +kernel)
set_option maxRecDepth 20000 in
theorem seX1_copy : Cond.selects yX1_copy.cls yX1_copy yX1_copy ∈ lw_good := lw_good_of 534 (by decide +kernel) (by decide +kernel)
set_option maxRecDepth 20000 in
theorem cwX1_copy : Cond.code yX1_copy cX1_copy 2 none ∈ lw_good := lw_good_of 535 (by decide +kernel) (by decide +kernel)
set_option maxRecDepth 20000 in
theorem imX1_shownKind : Cond.instanceMethod yX1_shownKind ∈ lw_good := lw_good_of 298 (by decide +kernel) (by decide +kernel)
set_option maxRecDepth 20000 in
theorem seX1_shownKind : Cond.selects yX1_shownKind.cls yX1_shownKind yX1_shownKind ∈ lw_good := lw_good_of 299 (by decide +kernel) (by decide +kernel)
set_option maxRecDepth 20000 in
theorem cwX1_shownKind : Cond.code yX1_shownKind cX1_shownKind 1 (some .int) ∈ lw_good := lw_good_of 300 (by decide +kernel) (by decide +kernel)
set_option maxRecDepth 20000 in
theorem imX2_init : Cond.instanceMethod yX2_init ∈ lw_good := lw_good_of 215 (by decide +kernel) (by decide +kernel)
set_option maxRecDepth 20000 in
theorem cwX2_init : Cond.code yX2_init cX2_init 2 none ∈ lw_good := lw_good_of 216 (by decide +kernel) (by decide +kernel)
set_option maxRecDepth 20000 in
theorem imX2_at : Cond.instanceMethod yX2_at ∈ lw_good := lw_good_of 294 (by decide +kernel) (by decide +kernel)
set_option maxRecDepth 20000 in
theorem seX2_at : Cond.selects yX2_at.cls yX2_at yX2_at ∈ lw_good := lw_good_of 295 (by decide +kernel) (by decide +kernel)
set_option maxRecDepth 20000 in
theorem cwX2_at : Cond.code yX2_at cX2_at 2 (some (.object "LabelNet$Message")) ∈ lw_good := lw_good_of 296 (by decide +kernel) (by decide +kernel)
set_option maxRecDepth 20000 in
theorem imX2_nextFree : Cond.instanceMethod yX2_nextFree ∈ lw_good := lw_good_of 529 (by decide +kernel) (by decide +kernel)
set_option maxRecDepth 20000 in
theorem seX2_nextFree : Cond.selects yX2_nextFree.cls yX2_nextFree yX2_nextFree ∈ lw_good := lw_good_of 530 (by decide +kernel) (by decide +kernel)
set_option maxRecDepth 20000 in
theorem cwX2_nextFree : Cond.code yX2_nextFree cX2_nextFree 1 (some (.object "LabelNet$Message")) ∈ lw_good := lw_good_of 531 (by decide +kernel) (by decide +kernel)
set_option maxRecDepth 20000 in
theorem imX2_dropFirst : Cond.instanceMethod yX2_dropFirst ∈ lw_good := lw_good_of 609 (by decide +kernel) (by decide +kernel)
set_option maxRecDepth 20000 in
theorem seX2_dropFirst : Cond.selects yX2_dropFirst.cls yX2_dropFirst yX2_dropFirst ∈ lw_good := lw_good_of 610 (by decide +kernel) (by decide +kernel)
set_option maxRecDepth 20000 in
theorem cwX2_dropFirst : Cond.code yX2_dropFirst cX2_dropFirst 1 none ∈ lw_good := lw_good_of 611 (by decide +kernel) (by decide +kernel)
set_option maxRecDepth 20000 in
theorem imX3_init : Cond.instanceMethod yX3_init ∈ lw_good := lw_good_of 671 (by decide +kernel) (by decide +kernel)
set_option maxRecDepth 20000 in
theorem cwX3_init : Cond.code yX3_init cX3_init 3 none ∈ lw_good := lw_good_of 672 (by decide +kernel) (by decide +kernel)
set_option maxRecDepth 20000 in
theorem imX4_init : Cond.instanceMethod yX4_init ∈ lw_good := lw_good_of 130 (by decide +kernel) (by decide +kernel)
set_option maxRecDepth 20000 in
theorem cwX4_init : Cond.code yX4_init cX4_init 4 none ∈ lw_good := lw_good_of 131 (by decide +kernel) (by decide +kernel)
set_option maxRecDepth 20000 in
theorem imX4_knowsUp : Cond.instanceMethod yX4_knowsUp ∈ lw_good := lw_good_of 323 (by decide +kernel) (by decide +kernel)
set_option maxRecDepth 20000 in
theorem seX4_knowsUp : Cond.selects yX4_knowsUp.cls yX4_knowsUp yX4_knowsUp ∈ lw_good := lw_good_of 324 (by decide +kernel) (by decide +kernel)
set_option maxRecDepth 20000 in
theorem cwX4_knowsUp : Cond.code yX4_knowsUp cX4_knowsUp 3 (some .boolean) ∈ lw_good := lw_good_of 325 (by decide +kernel) (by decide +kernel)
set_option maxRecDepth 20000 in
theorem imX4_forgetDistances : Cond.instanceMethod yX4_forgetDistances ∈ lw_good := lw_good_of 162 (by decide +kernel) (by decide +kernel)
set_option maxRecDepth 20000 in
theorem seX4_forgetDistances : Cond.selects yX4_forgetDistances.cls yX4_forgetDistances yX4_forgetDistances ∈ lw_good := lw_good_of 163 (by decide +kernel) (by decide +kernel)
set_option maxRecDepth 20000 in
theorem cwX4_forgetDistances : Cond.code yX4_forgetDistances cX4_forgetDistances 3 none ∈ lw_good := lw_good_of 164 (by decide +kernel) (by decide +kernel)
set_option maxRecDepth 20000 in
theorem imX4_takeStep : Cond.instanceMethod yX4_takeStep ∈ lw_good := lw_good_of 493 (by decide +kernel) (by decide +kernel)
set_option maxRecDepth 20000 in
theorem seX4_takeStep : Cond.selects yX4_takeStep.cls yX4_takeStep yX4_takeStep ∈ lw_good := lw_good_of 494 (by decide +kernel) (by decide +kernel)
set_option maxRecDepth 20000 in
theorem cwX4_takeStep : Cond.code yX4_takeStep cX4_takeStep 5 none ∈ lw_good := lw_good_of 495 (by decide +kernel) (by decide +kernel)
set_option maxRecDepth 20000 in
theorem imX4_joinSteps : Cond.instanceMethod yX4_joinSteps ∈ lw_good := lw_good_of 498 (by decide +kernel) (by decide +kernel)
set_option maxRecDepth 20000 in
theorem seX4_joinSteps : Cond.selects yX4_joinSteps.cls yX4_joinSteps yX4_joinSteps ∈ lw_good := lw_good_of 499 (by decide +kernel) (by decide +kernel)
set_option maxRecDepth 20000 in
theorem cwX4_joinSteps : Cond.code yX4_joinSteps cX4_joinSteps 3 none ∈ lw_good := lw_good_of 500 (by decide +kernel) (by decide +kernel)
set_option maxRecDepth 20000 in
theorem imX4_joinAt : Cond.instanceMethod yX4_joinAt ∈ lw_good := lw_good_of 502 (by decide +kernel) (by decide +kernel)
set_option maxRecDepth 20000 in
theorem seX4_joinAt : Cond.selects yX4_joinAt.cls yX4_joinAt yX4_joinAt ∈ lw_good := lw_good_of 503 (by decide +kernel) (by decide +kernel)
set_option maxRecDepth 20000 in
theorem cwX4_joinAt : Cond.code yX4_joinAt cX4_joinAt 4 none ∈ lw_good := lw_good_of 504 (by decide +kernel) (by decide +kernel)
set_option maxRecDepth 20000 in
theorem imX4_egress : Cond.instanceMethod yX4_egress ∈ lw_good := lw_good_of 338 (by decide +kernel) (by decide +kernel)
set_option maxRecDepth 20000 in
theorem seX4_egress : Cond.selects yX4_egress.cls yX4_egress yX4_egress ∈ lw_good := lw_good_of 339 (by decide +kernel) (by decide +kernel)
set_option maxRecDepth 20000 in
theorem cwX4_egress : Cond.code yX4_egress cX4_egress 4 (some .int) ∈ lw_good := lw_good_of 340 (by decide +kernel) (by decide +kernel)
set_option maxRecDepth 20000 in
theorem imX4_forgetMapping : Cond.instanceMethod yX4_forgetMapping ∈ lw_good := lw_good_of 167 (by decide +kernel) (by decide +kernel)
set_option maxRecDepth 20000 in
theorem seX4_forgetMapping : Cond.selects yX4_forgetMapping.cls yX4_forgetMapping yX4_forgetMapping ∈ lw_good := lw_good_of 168 (by decide +kernel) (by decide +kernel)
set_option maxRecDepth 20000 in
theorem cwX4_forgetMapping : Cond.code yX4_forgetMapping cX4_forgetMapping 3 none ∈ lw_good := lw_good_of 169 (by decide +kernel) (by decide +kernel)
set_option maxRecDepth 20000 in
theorem imX4_forgetLink : Cond.instanceMethod yX4_forgetLink ∈ lw_good := lw_good_of 583 (by decide +kernel) (by decide +kernel)
set_option maxRecDepth 20000 in
theorem seX4_forgetLink : Cond.selects yX4_forgetLink.cls yX4_forgetLink yX4_forgetLink ∈ lw_good := lw_good_of 584 (by decide +kernel) (by decide +kernel)
set_option maxRecDepth 20000 in
theorem cwX4_forgetLink : Cond.code yX4_forgetLink cX4_forgetLink 3 none ∈ lw_good := lw_good_of 585 (by decide +kernel) (by decide +kernel)
set_option maxRecDepth 20000 in
theorem imX4_labelFor : Cond.instanceMethod yX4_labelFor ∈ lw_good := lw_good_of 558 (by decide +kernel) (by decide +kernel)
set_option maxRecDepth 20000 in
theorem seX4_labelFor : Cond.selects yX4_labelFor.cls yX4_labelFor yX4_labelFor ∈ lw_good := lw_good_of 559 (by decide +kernel) (by decide +kernel)
set_option maxRecDepth 20000 in
theorem cwX4_labelFor : Cond.code yX4_labelFor cX4_labelFor 3 (some .int) ∈ lw_good := lw_good_of 560 (by decide +kernel) (by decide +kernel)
set_option maxRecDepth 20000 in
theorem imX4_leastFreeLabel : Cond.instanceMethod yX4_leastFreeLabel ∈ lw_good := lw_good_of 562 (by decide +kernel) (by decide +kernel)
set_option maxRecDepth 20000 in
theorem seX4_leastFreeLabel : Cond.selects yX4_leastFreeLabel.cls yX4_leastFreeLabel yX4_leastFreeLabel ∈ lw_good := lw_good_of 563 (by decide +kernel) (by decide +kernel)
set_option maxRecDepth 20000 in
theorem cwX4_leastFreeLabel : Cond.code yX4_leastFreeLabel cX4_leastFreeLabel 2 (some .int) ∈ lw_good := lw_good_of 564 (by decide +kernel) (by decide +kernel)
set_option maxRecDepth 20000 in
theorem imX4_bind : Cond.instanceMethod yX4_bind ∈ lw_good := lw_good_of 566 (by decide +kernel) (by decide +kernel)
set_option maxRecDepth 20000 in
theorem seX4_bind : Cond.selects yX4_bind.cls yX4_bind yX4_bind ∈ lw_good := lw_good_of 567 (by decide +kernel) (by decide +kernel)
set_option maxRecDepth 20000 in
theorem cwX4_bind : Cond.code yX4_bind cX4_bind 4 none ∈ lw_good := lw_good_of 568 (by decide +kernel) (by decide +kernel)
set_option maxRecDepth 20000 in
theorem smX4_isOwnLabel : Cond.static yX4_isOwnLabel ∈ lw_good := lw_good_of 522 (by decide +kernel) (by decide +kernel)
set_option maxRecDepth 20000 in
theorem cwX4_isOwnLabel : Cond.code yX4_isOwnLabel cX4_isOwnLabel 1 (some .boolean) ∈ lw_good := lw_good_of 523 (by decide +kernel) (by decide +kernel)
set_option maxRecDepth 20000 in
theorem imX4_releaseCounts : Cond.instanceMethod yX4_releaseCounts ∈ lw_good := lw_good_of 626 (by decide +kernel) (by decide +kernel)
set_option maxRecDepth 20000 in
theorem seX4_releaseCounts : Cond.selects yX4_releaseCounts.cls yX4_releaseCounts yX4_releaseCounts ∈ lw_good := lw_good_of 627 (by decide +kernel) (by decide +kernel)
set_option maxRecDepth 20000 in
theorem cwX4_releaseCounts : Cond.code yX4_releaseCounts cX4_releaseCounts 4 (some .boolean) ∈ lw_good := lw_good_of 628 (by decide +kernel) (by decide +kernel)
set_option maxRecDepth 20000 in
theorem imX4_freeIfReleased : Cond.instanceMethod yX4_freeIfReleased ∈ lw_good := lw_good_of 571 (by decide +kernel) (by decide +kernel)
set_option maxRecDepth 20000 in
theorem seX4_freeIfReleased : Cond.selects yX4_freeIfReleased.cls yX4_freeIfReleased yX4_freeIfReleased ∈ lw_good := lw_good_of 572 (by decide +kernel) (by decide +kernel)
set_option maxRecDepth 20000 in
theorem cwX4_freeIfReleased : Cond.code yX4_freeIfReleased cX4_freeIfReleased 2 none ∈ lw_good := lw_good_of 573 (by decide +kernel) (by decide +kernel)
set_option maxRecDepth 20000 in
theorem imX4_prefixOfLabel : Cond.instanceMethod yX4_prefixOfLabel ∈ lw_good := lw_good_of 634 (by decide +kernel) (by decide +kernel)
set_option maxRecDepth 20000 in
theorem seX4_prefixOfLabel : Cond.selects yX4_prefixOfLabel.cls yX4_prefixOfLabel yX4_prefixOfLabel ∈ lw_good := lw_good_of 635 (by decide +kernel) (by decide +kernel)
set_option maxRecDepth 20000 in
theorem cwX4_prefixOfLabel : Cond.code yX4_prefixOfLabel cX4_prefixOfLabel 3 (some .int) ∈ lw_good := lw_good_of 636 (by decide +kernel) (by decide +kernel)
set_option maxRecDepth 20000 in
theorem imX4_labelsInUse : Cond.instanceMethod yX4_labelsInUse ∈ lw_good := lw_good_of 354 (by decide +kernel) (by decide +kernel)
set_option maxRecDepth 20000 in
theorem seX4_labelsInUse : Cond.selects yX4_labelsInUse.cls yX4_labelsInUse yX4_labelsInUse ∈ lw_good := lw_good_of 355 (by decide +kernel) (by decide +kernel)
set_option maxRecDepth 20000 in
theorem cwX4_labelsInUse : Cond.code yX4_labelsInUse cX4_labelsInUse 3 (some .int) ∈ lw_good := lw_good_of 356 (by decide +kernel) (by decide +kernel)
set_option maxRecDepth 20000 in
theorem imX5_init : Cond.instanceMethod yX5_init ∈ lw_good := lw_good_of 139 (by decide +kernel) (by decide +kernel)
set_option maxRecDepth 20000 in
theorem cwX5_init : Cond.code yX5_init cX5_init 5 none ∈ lw_good := lw_good_of 140 (by decide +kernel) (by decide +kernel)
set_option maxRecDepth 20000 in
theorem imX6_init : Cond.instanceMethod yX6_init ∈ lw_good := lw_good_of 79 (by decide +kernel) (by decide +kernel)
set_option maxRecDepth 20000 in
theorem cwX6_init : Cond.code yX6_init cX6_init 4 none ∈ lw_good := lw_good_of 80 (by decide +kernel) (by decide +kernel)
set_option maxRecDepth 20000 in
theorem imX6_lay : Cond.instanceMethod yX6_lay ∈ lw_good := lw_good_of 374 (by decide +kernel) (by decide +kernel)
set_option maxRecDepth 20000 in
theorem seX6_lay : Cond.selects yX6_lay.cls yX6_lay yX6_lay ∈ lw_good := lw_good_of 375 (by decide +kernel) (by decide +kernel)
set_option maxRecDepth 20000 in
theorem cwX6_lay : Cond.code yX6_lay cX6_lay 6 none ∈ lw_good := lw_good_of 376 (by decide +kernel) (by decide +kernel)
set_option maxRecDepth 20000 in
theorem imX6_turn : Cond.instanceMethod yX6_turn ∈ lw_good := lw_good_of 464 (by decide +kernel) (by decide +kernel)
set_option maxRecDepth 20000 in
theorem seX6_turn : Cond.selects yX6_turn.cls yX6_turn yX6_turn ∈ lw_good := lw_good_of 465 (by decide +kernel) (by decide +kernel)
set_option maxRecDepth 20000 in
theorem cwX6_turn : Cond.code yX6_turn cX6_turn 3 none ∈ lw_good := lw_good_of 466 (by decide +kernel) (by decide +kernel)
set_option maxRecDepth 20000 in
theorem imX6_attach : Cond.instanceMethod yX6_attach ∈ lw_good := lw_good_of 591 (by decide +kernel) (by decide +kernel)
set_option maxRecDepth 20000 in
theorem seX6_attach : Cond.selects yX6_attach.cls yX6_attach yX6_attach ∈ lw_good := lw_good_of 592 (by decide +kernel) (by decide +kernel)
set_option maxRecDepth 20000 in
theorem cwX6_attach : Cond.code yX6_attach cX6_attach 4 none ∈ lw_good := lw_good_of 593 (by decide +kernel) (by decide +kernel)
set_option maxRecDepth 20000 in
theorem imX6_deliver : Cond.instanceMethod yX6_deliver ∈ lw_good := lw_good_of 600 (by decide +kernel) (by decide +kernel)
set_option maxRecDepth 20000 in
theorem seX6_deliver : Cond.selects yX6_deliver.cls yX6_deliver yX6_deliver ∈ lw_good := lw_good_of 601 (by decide +kernel) (by decide +kernel)
set_option maxRecDepth 20000 in
theorem cwX6_deliver : Cond.code yX6_deliver cX6_deliver 3 (some .int) ∈ lw_good := lw_good_of 602 (by decide +kernel) (by decide +kernel)
set_option maxRecDepth 20000 in
theorem imX6_run : Cond.instanceMethod yX6_run ∈ lw_good := lw_good_of 645 (by decide +kernel) (by decide +kernel)
set_option maxRecDepth 20000 in
theorem seX6_run : Cond.selects yX6_run.cls yX6_run yX6_run ∈ lw_good := lw_good_of 646 (by decide +kernel) (by decide +kernel)
set_option maxRecDepth 20000 in
theorem cwX6_run : Cond.code yX6_run cX6_run 4 (some .int) ∈ lw_good := lw_good_of 647 (by decide +kernel) (by decide +kernel)
set_option maxRecDepth 20000 in
theorem imX6_spoil : Cond.instanceMethod yX6_spoil ∈ lw_good := lw_good_of 657 (by decide +kernel) (by decide +kernel)
set_option maxRecDepth 20000 in
theorem seX6_spoil : Cond.selects yX6_spoil.cls yX6_spoil yX6_spoil ∈ lw_good := lw_good_of 658 (by decide +kernel) (by decide +kernel)
set_option maxRecDepth 20000 in
theorem cwX6_spoil : Cond.code yX6_spoil cX6_spoil 5 (some .boolean) ∈ lw_good := lw_good_of 659 (by decide +kernel) (by decide +kernel)
set_option maxRecDepth 20000 in
theorem imX6_inject : Cond.instanceMethod yX6_inject ∈ lw_good := lw_good_of 664 (by decide +kernel) (by decide +kernel)
set_option maxRecDepth 20000 in
theorem seX6_inject : Cond.selects yX6_inject.cls yX6_inject yX6_inject ∈ lw_good := lw_good_of 665 (by decide +kernel) (by decide +kernel)
set_option maxRecDepth 20000 in
theorem cwX6_inject : Cond.code yX6_inject cX6_inject 5 (some .int) ∈ lw_good := lw_good_of 666 (by decide +kernel) (by decide +kernel)
set_option maxRecDepth 20000 in
theorem imX6_packet : Cond.instanceMethod yX6_packet ∈ lw_good := lw_good_of 280 (by decide +kernel) (by decide +kernel)
set_option maxRecDepth 20000 in
theorem seX6_packet : Cond.selects yX6_packet.cls yX6_packet yX6_packet ∈ lw_good := lw_good_of 281 (by decide +kernel) (by decide +kernel)
set_option maxRecDepth 20000 in
theorem cwX6_packet : Cond.code yX6_packet cX6_packet 4 (some .int) ∈ lw_good := lw_good_of 282 (by decide +kernel) (by decide +kernel)
set_option maxRecDepth 20000 in
theorem imX6_queue : Cond.instanceMethod yX6_queue ∈ lw_good := lw_good_of 284 (by decide +kernel) (by decide +kernel)
set_option maxRecDepth 20000 in
theorem seX6_queue : Cond.selects yX6_queue.cls yX6_queue yX6_queue ∈ lw_good := lw_good_of 285 (by decide +kernel) (by decide +kernel)
set_option maxRecDepth 20000 in
theorem cwX6_queue : Cond.code yX6_queue cX6_queue 6 (some .int) ∈ lw_good := lw_good_of 286 (by decide +kernel) (by decide +kernel)
set_option maxRecDepth 20000 in
theorem imX6_knows : Cond.instanceMethod yX6_knows ∈ lw_good := lw_good_of 302 (by decide +kernel) (by decide +kernel)
set_option maxRecDepth 20000 in
theorem seX6_knows : Cond.selects yX6_knows.cls yX6_knows yX6_knows ∈ lw_good := lw_good_of 303 (by decide +kernel) (by decide +kernel)
set_option maxRecDepth 20000 in
theorem cwX6_knows : Cond.code yX6_knows cX6_knows 4 (some .int) ∈ lw_good := lw_good_of 304 (by decide +kernel) (by decide +kernel)
set_option maxRecDepth 20000 in
theorem imX6_way : Cond.instanceMethod yX6_way ∈ lw_good := lw_good_of 310 (by decide +kernel) (by decide +kernel)
set_option maxRecDepth 20000 in
theorem seX6_way : Cond.selects yX6_way.cls yX6_way yX6_way ∈ lw_good := lw_good_of 311 (by decide +kernel) (by decide +kernel)
set_option maxRecDepth 20000 in
theorem cwX6_way : Cond.code yX6_way cX6_way 5 (some .int) ∈ lw_good := lw_good_of 312 (by decide +kernel) (by decide +kernel)
set_option maxRecDepth 20000 in
theorem imX6_label : Cond.instanceMethod yX6_label ∈ lw_good := lw_good_of 331 (by decide +kernel) (by decide +kernel)
set_option maxRecDepth 20000 in
theorem seX6_label : Cond.selects yX6_label.cls yX6_label yX6_label ∈ lw_good := lw_good_of 332 (by decide +kernel) (by decide +kernel)
set_option maxRecDepth 20000 in
theorem cwX6_label : Cond.code yX6_label cX6_label 6 (some .int) ∈ lw_good := lw_good_of 333 (by decide +kernel) (by decide +kernel)
set_option maxRecDepth 20000 in
theorem imX6_count : Cond.instanceMethod yX6_count ∈ lw_good := lw_good_of 350 (by decide +kernel) (by decide +kernel)
set_option maxRecDepth 20000 in
theorem seX6_count : Cond.selects yX6_count.cls yX6_count yX6_count ∈ lw_good := lw_good_of 351 (by decide +kernel) (by decide +kernel)
set_option maxRecDepth 20000 in
theorem cwX6_count : Cond.code yX6_count cX6_count 3 (some .int) ∈ lw_good := lw_good_of 352 (by decide +kernel) (by decide +kernel)
set_option maxRecDepth 20000 in
theorem smX6_isLink : Cond.static yX6_isLink ∈ lw_good := lw_good_of 288 (by decide +kernel) (by decide +kernel)
set_option maxRecDepth 20000 in
theorem cwX6_isLink : Cond.code yX6_isLink cX6_isLink 1 (some .boolean) ∈ lw_good := lw_good_of 289 (by decide +kernel) (by decide +kernel)
set_option maxRecDepth 20000 in
theorem smX6_isEnd : Cond.static yX6_isEnd ∈ lw_good := lw_good_of 291 (by decide +kernel) (by decide +kernel)
set_option maxRecDepth 20000 in
theorem cwX6_isEnd : Cond.code yX6_isEnd cX6_isEnd 1 (some .boolean) ∈ lw_good := lw_good_of 292 (by decide +kernel) (by decide +kernel)
set_option maxRecDepth 20000 in
theorem smX6_isPrefix : Cond.static yX6_isPrefix ∈ lw_good := lw_good_of 335 (by decide +kernel) (by decide +kernel)
set_option maxRecDepth 20000 in
theorem cwX6_isPrefix : Cond.code yX6_isPrefix cX6_isPrefix 1 (some .boolean) ∈ lw_good := lw_good_of 336 (by decide +kernel) (by decide +kernel)
set_option maxRecDepth 20000 in
theorem imX6_isRouter : Cond.instanceMethod yX6_isRouter ∈ lw_good := lw_good_of 307 (by decide +kernel) (by decide +kernel)
set_option maxRecDepth 20000 in
theorem seX6_isRouter : Cond.selects yX6_isRouter.cls yX6_isRouter yX6_isRouter ∈ lw_good := lw_good_of 0 (by decide +kernel) (by decide +kernel)
set_option maxRecDepth 20000 in
theorem cwX6_isRouter : Cond.code yX6_isRouter cX6_isRouter 2 (some .boolean) ∈ lw_good := lw_good_of 308 (by decide +kernel) (by decide +kernel)
set_option maxRecDepth 20000 in
theorem imX6_packetsUnderWay : Cond.instanceMethod yX6_packetsUnderWay ∈ lw_good := lw_good_of 359 (by decide +kernel) (by decide +kernel)
set_option maxRecDepth 20000 in
theorem seX6_packetsUnderWay : Cond.selects yX6_packetsUnderWay.cls yX6_packetsUnderWay yX6_packetsUnderWay ∈ lw_good := lw_good_of 4 (by decide +kernel) (by decide +kernel)
set_option maxRecDepth 20000 in
theorem cwX6_packetsUnderWay : Cond.code yX6_packetsUnderWay cX6_packetsUnderWay 3 (some .int) ∈ lw_good := lw_good_of 360 (by decide +kernel) (by decide +kernel)
set_option maxRecDepth 20000 in
theorem imX6_linksUp : Cond.instanceMethod yX6_linksUp ∈ lw_good := lw_good_of 363 (by decide +kernel) (by decide +kernel)
set_option maxRecDepth 20000 in
theorem seX6_linksUp : Cond.selects yX6_linksUp.cls yX6_linksUp yX6_linksUp ∈ lw_good := lw_good_of 5 (by decide +kernel) (by decide +kernel)
set_option maxRecDepth 20000 in
theorem cwX6_linksUp : Cond.code yX6_linksUp cX6_linksUp 3 (some .int) ∈ lw_good := lw_good_of 364 (by decide +kernel) (by decide +kernel)
set_option maxRecDepth 20000 in
theorem imX6_comesUp : Cond.instanceMethod yX6_comesUp ∈ lw_good := lw_good_of 471 (by decide +kernel) (by decide +kernel)
set_option maxRecDepth 20000 in
theorem seX6_comesUp : Cond.selects yX6_comesUp.cls yX6_comesUp yX6_comesUp ∈ lw_good := lw_good_of 7 (by decide +kernel) (by decide +kernel)
set_option maxRecDepth 20000 in
theorem cwX6_comesUp : Cond.code yX6_comesUp cX6_comesUp 5 none ∈ lw_good := lw_good_of 472 (by decide +kernel) (by decide +kernel)
set_option maxRecDepth 20000 in
theorem imX6_goesDown : Cond.instanceMethod yX6_goesDown ∈ lw_good := lw_good_of 576 (by decide +kernel) (by decide +kernel)
set_option maxRecDepth 20000 in
theorem seX6_goesDown : Cond.selects yX6_goesDown.cls yX6_goesDown yX6_goesDown ∈ lw_good := lw_good_of 19 (by decide +kernel) (by decide +kernel)
set_option maxRecDepth 20000 in
theorem cwX6_goesDown : Cond.code yX6_goesDown cX6_goesDown 5 none ∈ lw_good := lw_good_of 577 (by decide +kernel) (by decide +kernel)
set_option maxRecDepth 20000 in
theorem imX6_cut : Cond.instanceMethod yX6_cut ∈ lw_good := lw_good_of 580 (by decide +kernel) (by decide +kernel)
set_option maxRecDepth 20000 in
theorem seX6_cut : Cond.selects yX6_cut.cls yX6_cut yX6_cut ∈ lw_good := lw_good_of 20 (by decide +kernel) (by decide +kernel)
set_option maxRecDepth 20000 in
theorem cwX6_cut : Cond.code yX6_cut cX6_cut 4 none ∈ lw_good := lw_good_of 581 (by decide +kernel) (by decide +kernel)
set_option maxRecDepth 20000 in
theorem imX6_tell : Cond.instanceMethod yX6_tell ∈ lw_good := lw_good_of 475 (by decide +kernel) (by decide +kernel)
set_option maxRecDepth 20000 in
theorem seX6_tell : Cond.selects yX6_tell.cls yX6_tell yX6_tell ∈ lw_good := lw_good_of 8 (by decide +kernel) (by decide +kernel)
set_option maxRecDepth 20000 in
theorem cwX6_tell : Cond.code yX6_tell cX6_tell 5 none ∈ lw_good := lw_good_of 476 (by decide +kernel) (by decide +kernel)
set_option maxRecDepth 20000 in
theorem imX6_linksUpAt : Cond.instanceMethod yX6_linksUpAt ∈ lw_good := lw_good_of 480 (by decide +kernel) (by decide +kernel)
set_option maxRecDepth 20000 in
theorem seX6_linksUpAt : Cond.selects yX6_linksUpAt.cls yX6_linksUpAt yX6_linksUpAt ∈ lw_good := lw_good_of 9 (by decide +kernel) (by decide +kernel)
set_option maxRecDepth 20000 in
theorem cwX6_linksUpAt : Cond.code yX6_linksUpAt cX6_linksUpAt 4 (some .int) ∈ lw_good := lw_good_of 481 (by decide +kernel) (by decide +kernel)
set_option maxRecDepth 20000 in
theorem imX6_prefixesAt : Cond.instanceMethod yX6_prefixesAt ∈ lw_good := lw_good_of 484 (by decide +kernel) (by decide +kernel)
set_option maxRecDepth 20000 in
theorem seX6_prefixesAt : Cond.selects yX6_prefixesAt.cls yX6_prefixesAt yX6_prefixesAt ∈ lw_good := lw_good_of 10 (by decide +kernel) (by decide +kernel)
set_option maxRecDepth 20000 in
theorem cwX6_prefixesAt : Cond.code yX6_prefixesAt cX6_prefixesAt 4 (some .int) ∈ lw_good := lw_good_of 485 (by decide +kernel) (by decide +kernel)
set_option maxRecDepth 20000 in
theorem imX6_putKnownNotes : Cond.instanceMethod yX6_putKnownNotes ∈ lw_good := lw_good_of 538 (by decide +kernel) (by decide +kernel)
set_option maxRecDepth 20000 in
theorem seX6_putKnownNotes : Cond.selects yX6_putKnownNotes.cls yX6_putKnownNotes yX6_putKnownNotes ∈ lw_good := lw_good_of 14 (by decide +kernel) (by decide +kernel)
set_option maxRecDepth 20000 in
theorem cwX6_putKnownNotes : Cond.code yX6_putKnownNotes cX6_putKnownNotes 5 none ∈ lw_good := lw_good_of 539 (by decide +kernel) (by decide +kernel)
set_option maxRecDepth 20000 in
theorem imX6_putMappings : Cond.instanceMethod yX6_putMappings ∈ lw_good := lw_good_of 542 (by decide +kernel) (by decide +kernel)
set_option maxRecDepth 20000 in
theorem seX6_putMappings : Cond.selects yX6_putMappings.cls yX6_putMappings yX6_putMappings ∈ lw_good := lw_good_of 15 (by decide +kernel) (by decide +kernel)
set_option maxRecDepth 20000 in
theorem cwX6_putMappings : Cond.code yX6_putMappings cX6_putMappings 4 none ∈ lw_good := lw_good_of 543 (by decide +kernel) (by decide +kernel)
set_option maxRecDepth 20000 in
theorem imX6_learn : Cond.instanceMethod yX6_learn ∈ lw_good := lw_good_of 489 (by decide +kernel) (by decide +kernel)
set_option maxRecDepth 20000 in
theorem seX6_learn : Cond.selects yX6_learn.cls yX6_learn yX6_learn ∈ lw_good := lw_good_of 11 (by decide +kernel) (by decide +kernel)
set_option maxRecDepth 20000 in
theorem cwX6_learn : Cond.code yX6_learn cX6_learn 5 none ∈ lw_good := lw_good_of 490 (by decide +kernel) (by decide +kernel)
set_option maxRecDepth 20000 in
theorem imX6_hop : Cond.instanceMethod yX6_hop ∈ lw_good := lw_good_of 316 (by decide +kernel) (by decide +kernel)
set_option maxRecDepth 20000 in
theorem seX6_hop : Cond.selects yX6_hop.cls yX6_hop yX6_hop ∈ lw_good := lw_good_of 1 (by decide +kernel) (by decide +kernel)
set_option maxRecDepth 20000 in
theorem cwX6_hop : Cond.code yX6_hop cX6_hop 6 (some .int) ∈ lw_good := lw_good_of 317 (by decide +kernel) (by decide +kernel)
set_option maxRecDepth 20000 in
theorem imX6_hopToEgress : Cond.instanceMethod yX6_hopToEgress ∈ lw_good := lw_good_of 347 (by decide +kernel) (by decide +kernel)
set_option maxRecDepth 20000 in
theorem seX6_hopToEgress : Cond.selects yX6_hopToEgress.cls yX6_hopToEgress yX6_hopToEgress ∈ lw_good := lw_good_of 3 (by decide +kernel) (by decide +kernel)
set_option maxRecDepth 20000 in
theorem cwX6_hopToEgress : Cond.code yX6_hopToEgress cX6_hopToEgress 4 (some .int) ∈ lw_good := lw_good_of 348 (by decide +kernel) (by decide +kernel)
set_option maxRecDepth 20000 in
theorem imX6_sendOnAll : Cond.instanceMethod yX6_sendOnAll ∈ lw_good := lw_good_of 515 (by decide +kernel) (by decide +kernel)
set_option maxRecDepth 20000 in
theorem seX6_sendOnAll : Cond.selects yX6_sendOnAll.cls yX6_sendOnAll yX6_sendOnAll ∈ lw_good := lw_good_of 12 (by decide +kernel) (by decide +kernel)
set_option maxRecDepth 20000 in
theorem cwX6_sendOnAll : Cond.code yX6_sendOnAll cX6_sendOnAll 5 none ∈ lw_good := lw_good_of 516 (by decide +kernel) (by decide +kernel)
set_option maxRecDepth 20000 in
theorem imX6_put : Cond.instanceMethod yX6_put ∈ lw_good := lw_good_of 519 (by decide +kernel) (by decide +kernel)
set_option maxRecDepth 20000 in
theorem seX6_put : Cond.selects yX6_put.cls yX6_put yX6_put ∈ lw_good := lw_good_of 13 (by decide +kernel) (by decide +kernel)
set_option maxRecDepth 20000 in
theorem cwX6_put : Cond.code yX6_put cX6_put 5 (some .boolean) ∈ lw_good := lw_good_of 520 (by decide +kernel) (by decide +kernel)
set_option maxRecDepth 20000 in
theorem imX6_firstThatWaits : Cond.instanceMethod yX6_firstThatWaits ∈ lw_good := lw_good_of 651 (by decide +kernel) (by decide +kernel)
set_option maxRecDepth 20000 in
theorem seX6_firstThatWaits : Cond.selects yX6_firstThatWaits.cls yX6_firstThatWaits yX6_firstThatWaits ∈ lw_good := lw_good_of 27 (by decide +kernel) (by decide +kernel)
set_option maxRecDepth 20000 in
theorem cwX6_firstThatWaits : Cond.code yX6_firstThatWaits cX6_firstThatWaits 3 (some .int) ∈ lw_good := lw_good_of 652 (by decide +kernel) (by decide +kernel)
set_option maxRecDepth 20000 in
theorem imX6_handOver : Cond.instanceMethod yX6_handOver ∈ lw_good := lw_good_of 606 (by decide +kernel) (by decide +kernel)
set_option maxRecDepth 20000 in
theorem seX6_handOver : Cond.selects yX6_handOver.cls yX6_handOver yX6_handOver ∈ lw_good := lw_good_of 21 (by decide +kernel) (by decide +kernel)
set_option maxRecDepth 20000 in
theorem cwX6_handOver : Cond.code yX6_handOver cX6_handOver 7 (some .int) ∈ lw_good := lw_good_of 607 (by decide +kernel) (by decide +kernel)
set_option maxRecDepth 20000 in
theorem imX6_noteComes : Cond.instanceMethod yX6_noteComes ∈ lw_good := lw_good_of 614 (by decide +kernel) (by decide +kernel)
set_option maxRecDepth 20000 in
theorem seX6_noteComes : Cond.selects yX6_noteComes.cls yX6_noteComes yX6_noteComes ∈ lw_good := lw_good_of 22 (by decide +kernel) (by decide +kernel)
set_option maxRecDepth 20000 in
theorem cwX6_noteComes : Cond.code yX6_noteComes cX6_noteComes 5 (some .boolean) ∈ lw_good := lw_good_of 615 (by decide +kernel) (by decide +kernel)
set_option maxRecDepth 20000 in
theorem imX6_mappingComes : Cond.instanceMethod yX6_mappingComes ∈ lw_good := lw_good_of 618 (by decide +kernel) (by decide +kernel)
set_option maxRecDepth 20000 in
theorem seX6_mappingComes : Cond.selects yX6_mappingComes.cls yX6_mappingComes yX6_mappingComes ∈ lw_good := lw_good_of 23 (by decide +kernel) (by decide +kernel)
set_option maxRecDepth 20000 in
theorem cwX6_mappingComes : Cond.code yX6_mappingComes cX6_mappingComes 5 none ∈ lw_good := lw_good_of 619 (by decide +kernel) (by decide +kernel)
set_option maxRecDepth 20000 in
theorem imX6_withdrawComes : Cond.instanceMethod yX6_withdrawComes ∈ lw_good := lw_good_of 623 (by decide +kernel) (by decide +kernel)
set_option maxRecDepth 20000 in
theorem seX6_withdrawComes : Cond.selects yX6_withdrawComes.cls yX6_withdrawComes yX6_withdrawComes ∈ lw_good := lw_good_of 24 (by decide +kernel) (by decide +kernel)
set_option maxRecDepth 20000 in
theorem cwX6_withdrawComes : Cond.code yX6_withdrawComes cX6_withdrawComes 5 none ∈ lw_good := lw_good_of 624 (by decide +kernel) (by decide +kernel)
set_option maxRecDepth 20000 in
theorem imX6_check : Cond.instanceMethod yX6_check ∈ lw_good := lw_good_of 547 (by decide +kernel) (by decide +kernel)
set_option maxRecDepth 20000 in
theorem seX6_check : Cond.selects yX6_check.cls yX6_check yX6_check ∈ lw_good := lw_good_of 16 (by decide +kernel) (by decide +kernel)
set_option maxRecDepth 20000 in
theorem cwX6_check : Cond.code yX6_check cX6_check 3 none ∈ lw_good := lw_good_of 548 (by decide +kernel) (by decide +kernel)
set_option maxRecDepth 20000 in
theorem imX6_checkPrefix : Cond.instanceMethod yX6_checkPrefix ∈ lw_good := lw_good_of 551 (by decide +kernel) (by decide +kernel)
set_option maxRecDepth 20000 in
theorem seX6_checkPrefix : Cond.selects yX6_checkPrefix.cls yX6_checkPrefix yX6_checkPrefix ∈ lw_good := lw_good_of 17 (by decide +kernel) (by decide +kernel)
set_option maxRecDepth 20000 in
theorem cwX6_checkPrefix : Cond.code yX6_checkPrefix cX6_checkPrefix 7 none ∈ lw_good := lw_good_of 552 (by decide +kernel) (by decide +kernel)
set_option maxRecDepth 20000 in
theorem imX6_pathNow : Cond.instanceMethod yX6_pathNow ∈ lw_good := lw_good_of 555 (by decide +kernel) (by decide +kernel)
set_option maxRecDepth 20000 in
theorem seX6_pathNow : Cond.selects yX6_pathNow.cls yX6_pathNow yX6_pathNow ∈ lw_good := lw_good_of 18 (by decide +kernel) (by decide +kernel)
set_option maxRecDepth 20000 in
theorem cwX6_pathNow : Cond.code yX6_pathNow cX6_pathNow 5 (some .int) ∈ lw_good := lw_good_of 556 (by decide +kernel) (by decide +kernel)
set_option maxRecDepth 20000 in
theorem imX6_ofMapping : Cond.instanceMethod yX6_ofMapping ∈ lw_good := lw_good_of 343 (by decide +kernel) (by decide +kernel)
set_option maxRecDepth 20000 in
theorem seX6_ofMapping : Cond.selects yX6_ofMapping.cls yX6_ofMapping yX6_ofMapping ∈ lw_good := lw_good_of 2 (by decide +kernel) (by decide +kernel)
set_option maxRecDepth 20000 in
theorem cwX6_ofMapping : Cond.code yX6_ofMapping cX6_ofMapping 6 (some .int) ∈ lw_good := lw_good_of 344 (by decide +kernel) (by decide +kernel)
set_option maxRecDepth 20000 in
theorem imX6_packetComes : Cond.instanceMethod yX6_packetComes ∈ lw_good := lw_good_of 631 (by decide +kernel) (by decide +kernel)
set_option maxRecDepth 20000 in
theorem seX6_packetComes : Cond.selects yX6_packetComes.cls yX6_packetComes yX6_packetComes ∈ lw_good := lw_good_of 25 (by decide +kernel) (by decide +kernel)
set_option maxRecDepth 20000 in
theorem cwX6_packetComes : Cond.code yX6_packetComes cX6_packetComes 6 none ∈ lw_good := lw_good_of 632 (by decide +kernel) (by decide +kernel)
set_option maxRecDepth 20000 in
theorem imX6_go : Cond.instanceMethod yX6_go ∈ lw_good := lw_good_of 639 (by decide +kernel) (by decide +kernel)
set_option maxRecDepth 20000 in
theorem seX6_go : Cond.selects yX6_go.cls yX6_go yX6_go ∈ lw_good := lw_good_of 26 (by decide +kernel) (by decide +kernel)
set_option maxRecDepth 20000 in
theorem cwX6_go : Cond.code yX6_go cX6_go 8 none ∈ lw_good := lw_good_of 640 (by decide +kernel) (by decide +kernel)
set_option maxRecDepth 20000 in
theorem imX7_init : Cond.instanceMethod yX7_init ∈ lw_good := lw_good_of 698 (by decide +kernel) (by decide +kernel)
set_option maxRecDepth 20000 in
theorem cwX7_init : Cond.code yX7_init cX7_init 3 none ∈ lw_good := lw_good_of 699 (by decide +kernel) (by decide +kernel)
set_option maxRecDepth 20000 in
theorem imX7_thrown : Cond.instanceMethod yX7_thrown ∈ lw_good := lw_good_of 797 (by decide +kernel) (by decide +kernel)
set_option maxRecDepth 20000 in
theorem seX7_thrown : Cond.selects yX7_thrown.cls yX7_thrown yX7_thrown ∈ lw_good := lw_good_of 798 (by decide +kernel) (by decide +kernel)
set_option maxRecDepth 20000 in
theorem cwX7_thrown : Cond.code yX7_thrown cX7_thrown 1 (some .int) ∈ lw_good := lw_good_of 799 (by decide +kernel) (by decide +kernel)
set_option maxRecDepth 20000 in
theorem imX7_goes : Cond.instanceMethod yX7_goes ∈ lw_good := lw_good_of 813 (by decide +kernel) (by decide +kernel)
set_option maxRecDepth 20000 in
theorem seX7_goes : Cond.selects yX7_goes.cls yX7_goes yX7_goes ∈ lw_good := lw_good_of 29 (by decide +kernel) (by decide +kernel)
set_option maxRecDepth 20000 in
theorem cwX7_goes : Cond.code yX7_goes cX7_goes 3 (some .boolean) ∈ lw_good := lw_good_of 814 (by decide +kernel) (by decide +kernel)
set_option maxRecDepth 20000 in
theorem smX7_in : Cond.static yX7_in ∈ lw_good := lw_good_of 805 (by decide +kernel) (by decide +kernel)
set_option maxRecDepth 20000 in
theorem cwX7_in : Cond.code yX7_in cX7_in 2 (some .boolean) ∈ lw_good := lw_good_of 806 (by decide +kernel) (by decide +kernel)
set_option maxRecDepth 20000 in
theorem imX7_isRouter : Cond.instanceMethod yX7_isRouter ∈ lw_good := lw_good_of 809 (by decide +kernel) (by decide +kernel)
set_option maxRecDepth 20000 in
theorem seX7_isRouter : Cond.selects yX7_isRouter.cls yX7_isRouter yX7_isRouter ∈ lw_good := lw_good_of 28 (by decide +kernel) (by decide +kernel)
set_option maxRecDepth 20000 in
theorem cwX7_isRouter : Cond.code yX7_isRouter cX7_isRouter 2 (some .boolean) ∈ lw_good := lw_good_of 810 (by decide +kernel) (by decide +kernel)
set_option maxRecDepth 20000 in
theorem imX7_isUp : Cond.instanceMethod yX7_isUp ∈ lw_good := lw_good_of 829 (by decide +kernel) (by decide +kernel)
set_option maxRecDepth 20000 in
theorem seX7_isUp : Cond.selects yX7_isUp.cls yX7_isUp yX7_isUp ∈ lw_good := lw_good_of 32 (by decide +kernel) (by decide +kernel)
set_option maxRecDepth 20000 in
theorem cwX7_isUp : Cond.code yX7_isUp cX7_isUp 3 (some .boolean) ∈ lw_good := lw_good_of 830 (by decide +kernel) (by decide +kernel)
set_option maxRecDepth 20000 in
theorem imX7_other : Cond.instanceMethod yX7_other ∈ lw_good := lw_good_of 902 (by decide +kernel) (by decide +kernel)
set_option maxRecDepth 20000 in
theorem seX7_other : Cond.selects yX7_other.cls yX7_other yX7_other ∈ lw_good := lw_good_of 50 (by decide +kernel) (by decide +kernel)
set_option maxRecDepth 20000 in
theorem cwX7_other : Cond.code yX7_other cX7_other 3 (some .int) ∈ lw_good := lw_good_of 903 (by decide +kernel) (by decide +kernel)
set_option maxRecDepth 20000 in
theorem imX7_put : Cond.instanceMethod yX7_put ∈ lw_good := lw_good_of 845 (by decide +kernel) (by decide +kernel)
set_option maxRecDepth 20000 in
theorem seX7_put : Cond.selects yX7_put.cls yX7_put yX7_put ∈ lw_good := lw_good_of 36 (by decide +kernel) (by decide +kernel)
set_option maxRecDepth 20000 in
theorem cwX7_put : Cond.code yX7_put cX7_put 9 (some .boolean) ∈ lw_good := lw_good_of 846 (by decide +kernel) (by decide +kernel)
set_option maxRecDepth 20000 in
theorem imX7_send : Cond.instanceMethod yX7_send ∈ lw_good := lw_good_of 841 (by decide +kernel) (by decide +kernel)
set_option maxRecDepth 20000 in
theorem seX7_send : Cond.selects yX7_send.cls yX7_send yX7_send ∈ lw_good := lw_good_of 35 (by decide +kernel) (by decide +kernel)
set_option maxRecDepth 20000 in
theorem cwX7_send : Cond.code yX7_send cX7_send 7 none ∈ lw_good := lw_good_of 842 (by decide +kernel) (by decide +kernel)
set_option maxRecDepth 20000 in
theorem imX7_sendAll : Cond.instanceMethod yX7_sendAll ∈ lw_good := lw_good_of 837 (by decide +kernel) (by decide +kernel)
set_option maxRecDepth 20000 in
theorem seX7_sendAll : Cond.selects yX7_sendAll.cls yX7_sendAll yX7_sendAll ∈ lw_good := lw_good_of 34 (by decide +kernel) (by decide +kernel)
set_option maxRecDepth 20000 in
theorem cwX7_sendAll : Cond.code yX7_sendAll cX7_sendAll 8 none ∈ lw_good := lw_good_of 838 (by decide +kernel) (by decide +kernel)
set_option maxRecDepth 20000 in
theorem imX7_bodyOf : Cond.instanceMethod yX7_bodyOf ∈ lw_good := lw_good_of 833 (by decide +kernel) (by decide +kernel)
set_option maxRecDepth 20000 in
theorem seX7_bodyOf : Cond.selects yX7_bodyOf.cls yX7_bodyOf yX7_bodyOf ∈ lw_good := lw_good_of 33 (by decide +kernel) (by decide +kernel)
set_option maxRecDepth 20000 in
theorem cwX7_bodyOf : Cond.code yX7_bodyOf cX7_bodyOf 3 (some .int) ∈ lw_good := lw_good_of 834 (by decide +kernel) (by decide +kernel)
set_option maxRecDepth 20000 in
theorem imX7_tell : Cond.instanceMethod yX7_tell ∈ lw_good := lw_good_of 825 (by decide +kernel) (by decide +kernel)
set_option maxRecDepth 20000 in
theorem seX7_tell : Cond.selects yX7_tell.cls yX7_tell yX7_tell ∈ lw_good := lw_good_of 31 (by decide +kernel) (by decide +kernel)
set_option maxRecDepth 20000 in
theorem cwX7_tell : Cond.code yX7_tell cX7_tell 5 none ∈ lw_good := lw_good_of 826 (by decide +kernel) (by decide +kernel)
set_option maxRecDepth 20000 in
theorem imX7_isStep : Cond.instanceMethod yX7_isStep ∈ lw_good := lw_good_of 878 (by decide +kernel) (by decide +kernel)
set_option maxRecDepth 20000 in
theorem seX7_isStep : Cond.selects yX7_isStep.cls yX7_isStep yX7_isStep ∈ lw_good := lw_good_of 44 (by decide +kernel) (by decide +kernel)
set_option maxRecDepth 20000 in
theorem cwX7_isStep : Cond.code yX7_isStep cX7_isStep 3 (some .boolean) ∈ lw_good := lw_good_of 879 (by decide +kernel) (by decide +kernel)
set_option maxRecDepth 20000 in
theorem imX7_shorten : Cond.instanceMethod yX7_shorten ∈ lw_good := lw_good_of 882 (by decide +kernel) (by decide +kernel)
set_option maxRecDepth 20000 in
theorem seX7_shorten : Cond.selects yX7_shorten.cls yX7_shorten yX7_shorten ∈ lw_good := lw_good_of 45 (by decide +kernel) (by decide +kernel)
set_option maxRecDepth 20000 in
theorem cwX7_shorten : Cond.code yX7_shorten cX7_shorten 4 none ∈ lw_good := lw_good_of 883 (by decide +kernel) (by decide +kernel)
set_option maxRecDepth 20000 in
theorem imX7_measure : Cond.instanceMethod yX7_measure ∈ lw_good := lw_good_of 873 (by decide +kernel) (by decide +kernel)
set_option maxRecDepth 20000 in
theorem seX7_measure : Cond.selects yX7_measure.cls yX7_measure yX7_measure ∈ lw_good := lw_good_of 43 (by decide +kernel) (by decide +kernel)
set_option maxRecDepth 20000 in
theorem cwX7_measure : Cond.code yX7_measure cX7_measure 5 none ∈ lw_good := lw_good_of 874 (by decide +kernel) (by decide +kernel)
set_option maxRecDepth 20000 in
theorem imX7_hop : Cond.instanceMethod yX7_hop ∈ lw_good := lw_good_of 898 (by decide +kernel) (by decide +kernel)
set_option maxRecDepth 20000 in
theorem seX7_hop : Cond.selects yX7_hop.cls yX7_hop yX7_hop ∈ lw_good := lw_good_of 49 (by decide +kernel) (by decide +kernel)
set_option maxRecDepth 20000 in
theorem cwX7_hop : Cond.code yX7_hop cX7_hop 4 (some .int) ∈ lw_good := lw_good_of 899 (by decide +kernel) (by decide +kernel)
set_option maxRecDepth 20000 in
theorem imX7_egress : Cond.instanceMethod yX7_egress ∈ lw_good := lw_good_of 894 (by decide +kernel) (by decide +kernel)
set_option maxRecDepth 20000 in
theorem seX7_egress : Cond.selects yX7_egress.cls yX7_egress yX7_egress ∈ lw_good := lw_good_of 48 (by decide +kernel) (by decide +kernel)
set_option maxRecDepth 20000 in
theorem cwX7_egress : Cond.code yX7_egress cX7_egress 4 (some .int) ∈ lw_good := lw_good_of 895 (by decide +kernel) (by decide +kernel)
set_option maxRecDepth 20000 in
theorem imX7_slot : Cond.instanceMethod yX7_slot ∈ lw_good := lw_good_of 861 (by decide +kernel) (by decide +kernel)
set_option maxRecDepth 20000 in
theorem seX7_slot : Cond.selects yX7_slot.cls yX7_slot yX7_slot ∈ lw_good := lw_good_of 40 (by decide +kernel) (by decide +kernel)
set_option maxRecDepth 20000 in
theorem cwX7_slot : Cond.code yX7_slot cX7_slot 4 (some .int) ∈ lw_good := lw_good_of 862 (by decide +kernel) (by decide +kernel)
set_option maxRecDepth 20000 in
theorem imX7_settle : Cond.instanceMethod yX7_settle ∈ lw_good := lw_good_of 865 (by decide +kernel) (by decide +kernel)
set_option maxRecDepth 20000 in
theorem seX7_settle : Cond.selects yX7_settle.cls yX7_settle yX7_settle ∈ lw_good := lw_good_of 41 (by decide +kernel) (by decide +kernel)
set_option maxRecDepth 20000 in
theorem cwX7_settle : Cond.code yX7_settle cX7_settle 4 none ∈ lw_good := lw_good_of 866 (by decide +kernel) (by decide +kernel)
set_option maxRecDepth 20000 in
theorem imX7_withdraw : Cond.instanceMethod yX7_withdraw ∈ lw_good := lw_good_of 906 (by decide +kernel) (by decide +kernel)
set_option maxRecDepth 20000 in
theorem seX7_withdraw : Cond.selects yX7_withdraw.cls yX7_withdraw yX7_withdraw ∈ lw_good := lw_good_of 51 (by decide +kernel) (by decide +kernel)
set_option maxRecDepth 20000 in
theorem cwX7_withdraw : Cond.code yX7_withdraw cX7_withdraw 4 none ∈ lw_good := lw_good_of 907 (by decide +kernel) (by decide +kernel)
set_option maxRecDepth 20000 in
theorem imX7_free : Cond.instanceMethod yX7_free ∈ lw_good := lw_good_of 914 (by decide +kernel) (by decide +kernel)
set_option maxRecDepth 20000 in
theorem seX7_free : Cond.selects yX7_free.cls yX7_free yX7_free ∈ lw_good := lw_good_of 53 (by decide +kernel) (by decide +kernel)
set_option maxRecDepth 20000 in
theorem cwX7_free : Cond.code yX7_free cX7_free 3 (some .int) ∈ lw_good := lw_good_of 915 (by decide +kernel) (by decide +kernel)
set_option maxRecDepth 20000 in
theorem imX7_become : Cond.instanceMethod yX7_become ∈ lw_good := lw_good_of 910 (by decide +kernel) (by decide +kernel)
set_option maxRecDepth 20000 in
theorem seX7_become : Cond.selects yX7_become.cls yX7_become yX7_become ∈ lw_good := lw_good_of 52 (by decide +kernel) (by decide +kernel)
set_option maxRecDepth 20000 in
theorem cwX7_become : Cond.code yX7_become cX7_become 5 none ∈ lw_good := lw_good_of 911 (by decide +kernel) (by decide +kernel)
set_option maxRecDepth 20000 in
theorem imX7_byHop : Cond.instanceMethod yX7_byHop ∈ lw_good := lw_good_of 890 (by decide +kernel) (by decide +kernel)
set_option maxRecDepth 20000 in
theorem seX7_byHop : Cond.selects yX7_byHop.cls yX7_byHop yX7_byHop ∈ lw_good := lw_good_of 47 (by decide +kernel) (by decide +kernel)
set_option maxRecDepth 20000 in
theorem cwX7_byHop : Cond.code yX7_byHop cX7_byHop 5 (some .int) ∈ lw_good := lw_good_of 891 (by decide +kernel) (by decide +kernel)
set_option maxRecDepth 20000 in
theorem imX7_checkOne : Cond.instanceMethod yX7_checkOne ∈ lw_good := lw_good_of 886 (by decide +kernel) (by decide +kernel)
set_option maxRecDepth 20000 in
theorem seX7_checkOne : Cond.selects yX7_checkOne.cls yX7_checkOne yX7_checkOne ∈ lw_good := lw_good_of 46 (by decide +kernel) (by decide +kernel)
set_option maxRecDepth 20000 in
theorem cwX7_checkOne : Cond.code yX7_checkOne cX7_checkOne 7 none ∈ lw_good := lw_good_of 887 (by decide +kernel) (by decide +kernel)
set_option maxRecDepth 20000 in
theorem imX7_check : Cond.instanceMethod yX7_check ∈ lw_good := lw_good_of 869 (by decide +kernel) (by decide +kernel)
set_option maxRecDepth 20000 in
theorem seX7_check : Cond.selects yX7_check.cls yX7_check yX7_check ∈ lw_good := lw_good_of 42 (by decide +kernel) (by decide +kernel)
set_option maxRecDepth 20000 in
theorem cwX7_check : Cond.code yX7_check cX7_check 3 none ∈ lw_good := lw_good_of 870 (by decide +kernel) (by decide +kernel)
set_option maxRecDepth 20000 in
theorem imX7_noted : Cond.instanceMethod yX7_noted ∈ lw_good := lw_good_of 933 (by decide +kernel) (by decide +kernel)
set_option maxRecDepth 20000 in
theorem seX7_noted : Cond.selects yX7_noted.cls yX7_noted yX7_noted ∈ lw_good := lw_good_of 55 (by decide +kernel) (by decide +kernel)
set_option maxRecDepth 20000 in
theorem cwX7_noted : Cond.code yX7_noted cX7_noted 7 none ∈ lw_good := lw_good_of 934 (by decide +kernel) (by decide +kernel)
set_option maxRecDepth 20000 in
theorem imX7_mapped : Cond.instanceMethod yX7_mapped ∈ lw_good := lw_good_of 937 (by decide +kernel) (by decide +kernel)
set_option maxRecDepth 20000 in
theorem seX7_mapped : Cond.selects yX7_mapped.cls yX7_mapped yX7_mapped ∈ lw_good := lw_good_of 56 (by decide +kernel) (by decide +kernel)
set_option maxRecDepth 20000 in
theorem cwX7_mapped : Cond.code yX7_mapped cX7_mapped 7 none ∈ lw_good := lw_good_of 938 (by decide +kernel) (by decide +kernel)
set_option maxRecDepth 20000 in
theorem imX7_withdrawn : Cond.instanceMethod yX7_withdrawn ∈ lw_good := lw_good_of 941 (by decide +kernel) (by decide +kernel)
set_option maxRecDepth 20000 in
theorem seX7_withdrawn : Cond.selects yX7_withdrawn.cls yX7_withdrawn yX7_withdrawn ∈ lw_good := lw_good_of 57 (by decide +kernel) (by decide +kernel)
set_option maxRecDepth 20000 in
theorem cwX7_withdrawn : Cond.code yX7_withdrawn cX7_withdrawn 5 none ∈ lw_good := lw_good_of 942 (by decide +kernel) (by decide +kernel)
set_option maxRecDepth 20000 in
theorem imX7_released : Cond.instanceMethod yX7_released ∈ lw_good := lw_good_of 945 (by decide +kernel) (by decide +kernel)
set_option maxRecDepth 20000 in
theorem seX7_released : Cond.selects yX7_released.cls yX7_released yX7_released ∈ lw_good := lw_good_of 58 (by decide +kernel) (by decide +kernel)
set_option maxRecDepth 20000 in
theorem cwX7_released : Cond.code yX7_released cX7_released 5 none ∈ lw_good := lw_good_of 946 (by decide +kernel) (by decide +kernel)
set_option maxRecDepth 20000 in
theorem imX7_go : Cond.instanceMethod yX7_go ∈ lw_good := lw_good_of 949 (by decide +kernel) (by decide +kernel)
set_option maxRecDepth 20000 in
theorem seX7_go : Cond.selects yX7_go.cls yX7_go yX7_go ∈ lw_good := lw_good_of 59 (by decide +kernel) (by decide +kernel)
set_option maxRecDepth 20000 in
theorem cwX7_go : Cond.code yX7_go cX7_go 8 none ∈ lw_good := lw_good_of 950 (by decide +kernel) (by decide +kernel)
set_option maxRecDepth 20000 in
theorem imX7_come : Cond.instanceMethod yX7_come ∈ lw_good := lw_good_of 929 (by decide +kernel) (by decide +kernel)
set_option maxRecDepth 20000 in
theorem seX7_come : Cond.selects yX7_come.cls yX7_come yX7_come ∈ lw_good := lw_good_of 54 (by decide +kernel) (by decide +kernel)
set_option maxRecDepth 20000 in
theorem cwX7_come : Cond.code yX7_come cX7_come 11 (some .int) ∈ lw_good := lw_good_of 930 (by decide +kernel) (by decide +kernel)
set_option maxRecDepth 20000 in
theorem imX7_lay : Cond.instanceMethod yX7_lay ∈ lw_good := lw_good_of 801 (by decide +kernel) (by decide +kernel)
set_option maxRecDepth 20000 in
theorem seX7_lay : Cond.selects yX7_lay.cls yX7_lay yX7_lay ∈ lw_good := lw_good_of 802 (by decide +kernel) (by decide +kernel)
set_option maxRecDepth 20000 in
theorem cwX7_lay : Cond.code yX7_lay cX7_lay 6 none ∈ lw_good := lw_good_of 803 (by decide +kernel) (by decide +kernel)
set_option maxRecDepth 20000 in
theorem imX7_showNotes : Cond.instanceMethod yX7_showNotes ∈ lw_good := lw_good_of 849 (by decide +kernel) (by decide +kernel)
set_option maxRecDepth 20000 in
theorem seX7_showNotes : Cond.selects yX7_showNotes.cls yX7_showNotes yX7_showNotes ∈ lw_good := lw_good_of 37 (by decide +kernel) (by decide +kernel)
set_option maxRecDepth 20000 in
theorem cwX7_showNotes : Cond.code yX7_showNotes cX7_showNotes 4 none ∈ lw_good := lw_good_of 850 (by decide +kernel) (by decide +kernel)
set_option maxRecDepth 20000 in
theorem imX7_showMappings : Cond.instanceMethod yX7_showMappings ∈ lw_good := lw_good_of 853 (by decide +kernel) (by decide +kernel)
set_option maxRecDepth 20000 in
theorem seX7_showMappings : Cond.selects yX7_showMappings.cls yX7_showMappings yX7_showMappings ∈ lw_good := lw_good_of 38 (by decide +kernel) (by decide +kernel)
set_option maxRecDepth 20000 in
theorem cwX7_showMappings : Cond.code yX7_showMappings cX7_showMappings 4 none ∈ lw_good := lw_good_of 854 (by decide +kernel) (by decide +kernel)
set_option maxRecDepth 20000 in
theorem imX7_empty : Cond.instanceMethod yX7_empty ∈ lw_good := lw_good_of 821 (by decide +kernel) (by decide +kernel)
set_option maxRecDepth 20000 in
theorem seX7_empty : Cond.selects yX7_empty.cls yX7_empty yX7_empty ∈ lw_good := lw_good_of 30 (by decide +kernel) (by decide +kernel)
set_option maxRecDepth 20000 in
theorem cwX7_empty : Cond.code yX7_empty cX7_empty 3 none ∈ lw_good := lw_good_of 822 (by decide +kernel) (by decide +kernel)
set_option maxRecDepth 20000 in
theorem imX7_sever : Cond.instanceMethod yX7_sever ∈ lw_good := lw_good_of 857 (by decide +kernel) (by decide +kernel)
set_option maxRecDepth 20000 in
theorem seX7_sever : Cond.selects yX7_sever.cls yX7_sever yX7_sever ∈ lw_good := lw_good_of 39 (by decide +kernel) (by decide +kernel)
set_option maxRecDepth 20000 in
theorem cwX7_sever : Cond.code yX7_sever cX7_sever 4 none ∈ lw_good := lw_good_of 858 (by decide +kernel) (by decide +kernel)
set_option maxRecDepth 20000 in
theorem imX7_turn : Cond.instanceMethod yX7_turn ∈ lw_good := lw_good_of 816 (by decide +kernel) (by decide +kernel)
set_option maxRecDepth 20000 in
theorem seX7_turn : Cond.selects yX7_turn.cls yX7_turn yX7_turn ∈ lw_good := lw_good_of 817 (by decide +kernel) (by decide +kernel)
set_option maxRecDepth 20000 in
theorem cwX7_turn : Cond.code yX7_turn cX7_turn 6 none ∈ lw_good := lw_good_of 818 (by decide +kernel) (by decide +kernel)
set_option maxRecDepth 20000 in
theorem imX7_attach : Cond.instanceMethod yX7_attach ∈ lw_good := lw_good_of 917 (by decide +kernel) (by decide +kernel)
set_option maxRecDepth 20000 in
theorem seX7_attach : Cond.selects yX7_attach.cls yX7_attach yX7_attach ∈ lw_good := lw_good_of 918 (by decide +kernel) (by decide +kernel)
set_option maxRecDepth 20000 in
theorem cwX7_attach : Cond.code yX7_attach cX7_attach 5 none ∈ lw_good := lw_good_of 919 (by decide +kernel) (by decide +kernel)
set_option maxRecDepth 20000 in
theorem smX7_isEnd : Cond.static yX7_isEnd ∈ lw_good := lw_good_of 925 (by decide +kernel) (by decide +kernel)
set_option maxRecDepth 20000 in
theorem cwX7_isEnd : Cond.code yX7_isEnd cX7_isEnd 2 (some .boolean) ∈ lw_good := lw_good_of 926 (by decide +kernel) (by decide +kernel)
set_option maxRecDepth 20000 in
theorem imX7_deliver : Cond.instanceMethod yX7_deliver ∈ lw_good := lw_good_of 921 (by decide +kernel) (by decide +kernel)
set_option maxRecDepth 20000 in
theorem seX7_deliver : Cond.selects yX7_deliver.cls yX7_deliver yX7_deliver ∈ lw_good := lw_good_of 922 (by decide +kernel) (by decide +kernel)
set_option maxRecDepth 20000 in
theorem cwX7_deliver : Cond.code yX7_deliver cX7_deliver 3 (some .int) ∈ lw_good := lw_good_of 923 (by decide +kernel) (by decide +kernel)
set_option maxRecDepth 20000 in
theorem imX7_run : Cond.instanceMethod yX7_run ∈ lw_good := lw_good_of 952 (by decide +kernel) (by decide +kernel)
set_option maxRecDepth 20000 in
theorem seX7_run : Cond.selects yX7_run.cls yX7_run yX7_run ∈ lw_good := lw_good_of 953 (by decide +kernel) (by decide +kernel)
set_option maxRecDepth 20000 in
theorem cwX7_run : Cond.code yX7_run cX7_run 6 (some .int) ∈ lw_good := lw_good_of 954 (by decide +kernel) (by decide +kernel)
set_option maxRecDepth 20000 in
theorem imX7_spoil : Cond.instanceMethod yX7_spoil ∈ lw_good := lw_good_of 956 (by decide +kernel) (by decide +kernel)
set_option maxRecDepth 20000 in
theorem seX7_spoil : Cond.selects yX7_spoil.cls yX7_spoil yX7_spoil ∈ lw_good := lw_good_of 957 (by decide +kernel) (by decide +kernel)
set_option maxRecDepth 20000 in
theorem cwX7_spoil : Cond.code yX7_spoil cX7_spoil 5 (some .boolean) ∈ lw_good := lw_good_of 958 (by decide +kernel) (by decide +kernel)
set_option maxRecDepth 20000 in
theorem imX7_inject : Cond.instanceMethod yX7_inject ∈ lw_good := lw_good_of 960 (by decide +kernel) (by decide +kernel)
set_option maxRecDepth 20000 in
theorem seX7_inject : Cond.selects yX7_inject.cls yX7_inject yX7_inject ∈ lw_good := lw_good_of 961 (by decide +kernel) (by decide +kernel)
set_option maxRecDepth 20000 in
theorem cwX7_inject : Cond.code yX7_inject cX7_inject 5 (some .int) ∈ lw_good := lw_good_of 962 (by decide +kernel) (by decide +kernel)
set_option maxRecDepth 20000 in
theorem imX7_packet : Cond.instanceMethod yX7_packet ∈ lw_good := lw_good_of 964 (by decide +kernel) (by decide +kernel)
set_option maxRecDepth 20000 in
theorem seX7_packet : Cond.selects yX7_packet.cls yX7_packet yX7_packet ∈ lw_good := lw_good_of 965 (by decide +kernel) (by decide +kernel)
set_option maxRecDepth 20000 in
theorem cwX7_packet : Cond.code yX7_packet cX7_packet 3 (some .int) ∈ lw_good := lw_good_of 966 (by decide +kernel) (by decide +kernel)
set_option maxRecDepth 20000 in
theorem imX7_queue : Cond.instanceMethod yX7_queue ∈ lw_good := lw_good_of 968 (by decide +kernel) (by decide +kernel)
set_option maxRecDepth 20000 in
theorem seX7_queue : Cond.selects yX7_queue.cls yX7_queue yX7_queue ∈ lw_good := lw_good_of 969 (by decide +kernel) (by decide +kernel)
set_option maxRecDepth 20000 in
theorem cwX7_queue : Cond.code yX7_queue cX7_queue 6 (some .int) ∈ lw_good := lw_good_of 970 (by decide +kernel) (by decide +kernel)
set_option maxRecDepth 20000 in
theorem imX7_knows : Cond.instanceMethod yX7_knows ∈ lw_good := lw_good_of 972 (by decide +kernel) (by decide +kernel)
set_option maxRecDepth 20000 in
theorem seX7_knows : Cond.selects yX7_knows.cls yX7_knows yX7_knows ∈ lw_good := lw_good_of 973 (by decide +kernel) (by decide +kernel)
set_option maxRecDepth 20000 in
theorem cwX7_knows : Cond.code yX7_knows cX7_knows 3 (some .int) ∈ lw_good := lw_good_of 974 (by decide +kernel) (by decide +kernel)
set_option maxRecDepth 20000 in
theorem imX7_way : Cond.instanceMethod yX7_way ∈ lw_good := lw_good_of 976 (by decide +kernel) (by decide +kernel)
set_option maxRecDepth 20000 in
theorem seX7_way : Cond.selects yX7_way.cls yX7_way yX7_way ∈ lw_good := lw_good_of 977 (by decide +kernel) (by decide +kernel)
set_option maxRecDepth 20000 in
theorem cwX7_way : Cond.code yX7_way cX7_way 4 (some .int) ∈ lw_good := lw_good_of 978 (by decide +kernel) (by decide +kernel)
set_option maxRecDepth 20000 in
theorem imX7_asked : Cond.instanceMethod yX7_asked ∈ lw_good := lw_good_of 985 (by decide +kernel) (by decide +kernel)
set_option maxRecDepth 20000 in
theorem seX7_asked : Cond.selects yX7_asked.cls yX7_asked yX7_asked ∈ lw_good := lw_good_of 60 (by decide +kernel) (by decide +kernel)
set_option maxRecDepth 20000 in
theorem cwX7_asked : Cond.code yX7_asked cX7_asked 4 (some .int) ∈ lw_good := lw_good_of 986 (by decide +kernel) (by decide +kernel)
set_option maxRecDepth 20000 in
theorem imX7_label : Cond.instanceMethod yX7_label ∈ lw_good := lw_good_of 980 (by decide +kernel) (by decide +kernel)
set_option maxRecDepth 20000 in
theorem seX7_label : Cond.selects yX7_label.cls yX7_label yX7_label ∈ lw_good := lw_good_of 981 (by decide +kernel) (by decide +kernel)
set_option maxRecDepth 20000 in
theorem cwX7_label : Cond.code yX7_label cX7_label 6 (some .int) ∈ lw_good := lw_good_of 982 (by decide +kernel) (by decide +kernel)
set_option maxRecDepth 20000 in
theorem imX7_count : Cond.instanceMethod yX7_count ∈ lw_good := lw_good_of 988 (by decide +kernel) (by decide +kernel)
set_option maxRecDepth 20000 in
theorem seX7_count : Cond.selects yX7_count.cls yX7_count yX7_count ∈ lw_good := lw_good_of 989 (by decide +kernel) (by decide +kernel)
set_option maxRecDepth 20000 in
theorem cwX7_count : Cond.code yX7_count cX7_count 5 (some .int) ∈ lw_good := lw_good_of 990 (by decide +kernel) (by decide +kernel)
set_option maxRecDepth 20000 in
theorem kiL : Cond.initialized RL ∈ lw_good := lw_good_of 61 (by decide +kernel) (by decide +kernel)
set_option maxRecDepth 20000 in
theorem kiX6 : Cond.initialized RX6 ∈ lw_good := lw_good_of 62 (by decide +kernel) (by decide +kernel)
set_option maxRecDepth 20000 in
theorem kiX1 : Cond.initialized RX1 ∈ lw_good := lw_good_of 63 (by decide +kernel) (by decide +kernel)
set_option maxRecDepth 20000 in
theorem kiJ9 : Cond.initialized RJ9 ∈ lw_good := lw_good_of 64 (by decide +kernel) (by decide +kernel)
set_option maxRecDepth 20000 in
theorem mi_math : Cond.initialized "java/lang/Math" ∈ lw_good := lw_good_of 64 (by decide +kernel) (by decide +kernel)
set_option maxRecDepth 20000 in
theorem kiX4 : Cond.initialized RX4 ∈ lw_good := lw_good_of 65 (by decide +kernel) (by decide +kernel)
set_option maxRecDepth 20000 in
theorem kiX5 : Cond.initialized RX5 ∈ lw_good := lw_good_of 66 (by decide +kernel) (by decide +kernel)
set_option maxRecDepth 20000 in
theorem kiX0 : Cond.initialized RX0 ∈ lw_good := lw_good_of 67 (by decide +kernel) (by decide +kernel)
set_option maxRecDepth 20000 in
theorem kiX2 : Cond.initialized RX2 ∈ lw_good := lw_good_of 68 (by decide +kernel) (by decide +kernel)
set_option maxRecDepth 20000 in
theorem kiX7 : Cond.initialized RX7 ∈ lw_good := lw_good_of 69 (by decide +kernel) (by decide +kernel)
set_option maxRecDepth 20000 in
theorem kiX3 : Cond.initialized RX3 ∈ lw_good := lw_good_of 75 (by decide +kernel) (by decide +kernel)
set_option maxRecDepth 20000 in
theorem klL_8 : Cond.classLink RL 8 RX6 ∈ lw_good := lw_good_of 76 (by decide +kernel) (by decide +kernel)
set_option maxRecDepth 20000 in
theorem knX6 : Cond.instantiable RX6 7 ∈ lw_good := lw_good_of 77 (by decide +kernel) (by decide +kernel)
set_option maxRecDepth 20000 in
theorem olX6_1 : Cond.methodLink RX6 1 Lib.objectInit ∈ lw_good := lw_good_of 81 (by decide +kernel) (by decide +kernel)
set_option maxRecDepth 20000 in
theorem oi_obj : Cond.instanceMethod Lib.objectInit ∈ lw_good := lw_good_of 82 (by decide +kernel) (by decide +kernel)
set_option maxRecDepth 20000 in
theorem oc_obj : Cond.code Lib.objectInit ⟨#[0xb1]⟩ 1 none ∈ lw_good := lw_good_of 83 (by decide +kernel) (by decide +kernel)
set_option maxRecDepth 20000 in
theorem klX6_9 : Cond.classLink RX6 9 RX0 ∈ lw_good := lw_good_of 84 (by decide +kernel) (by decide +kernel)
set_option maxRecDepth 20000 in
theorem klX6_19 : Cond.classLink RX6 19 RX3 ∈ lw_good := lw_good_of 86 (by decide +kernel) (by decide +kernel)
set_option maxRecDepth 20000 in
theorem klX6_32 : Cond.classLink RX6 32 RX1 ∈ lw_good := lw_good_of 88 (by decide +kernel) (by decide +kernel)
set_option maxRecDepth 20000 in
theorem knX1 : Cond.instantiable RX1 6 ∈ lw_good := lw_good_of 89 (by decide +kernel) (by decide +kernel)
set_option maxRecDepth 20000 in
theorem olX1_3 : Cond.methodLink RX1 3 Lib.objectInit ∈ lw_good := lw_good_of 93 (by decide +kernel) (by decide +kernel)
set_option maxRecDepth 20000 in
theorem ka_int : Cond.arrayClass .int ∈ lw_good := lw_good_of 119 (by decide +kernel) (by decide +kernel)
set_option maxRecDepth 20000 in
theorem mlX6_39 : Cond.methodLink RX6 39 Lib.Math.min.name ∈ lw_good := lw_good_of 120 (by decide +kernel) (by decide +kernel)
set_option maxRecDepth 20000 in
theorem ms_min : Cond.static Lib.Math.min.name ∈ lw_good := lw_good_of 121 (by decide +kernel) (by decide +kernel)
set_option maxRecDepth 20000 in
theorem mc_min : Cond.code Lib.Math.min.name Lib.Math.min.code 2 (some .int) ∈ lw_good := lw_good_of 122 (by decide +kernel) (by decide +kernel)
set_option maxRecDepth 20000 in
theorem mlX6_45 : Cond.methodLink RX6 45 Lib.Math.max.name ∈ lw_good := lw_good_of 123 (by decide +kernel) (by decide +kernel)
set_option maxRecDepth 20000 in
theorem ms_max : Cond.static Lib.Math.max.name ∈ lw_good := lw_good_of 124 (by decide +kernel) (by decide +kernel)
set_option maxRecDepth 20000 in
theorem mc_max : Cond.code Lib.Math.max.name Lib.Math.max.code 2 (some .int) ∈ lw_good := lw_good_of 125 (by decide +kernel) (by decide +kernel)
set_option maxRecDepth 20000 in
theorem klX6_48 : Cond.classLink RX6 48 RX4 ∈ lw_good := lw_good_of 126 (by decide +kernel) (by decide +kernel)
set_option maxRecDepth 20000 in
theorem knX4 : Cond.instantiable RX4 9 ∈ lw_good := lw_good_of 128 (by decide +kernel) (by decide +kernel)
set_option maxRecDepth 20000 in
theorem olX4_3 : Cond.methodLink RX4 3 Lib.objectInit ∈ lw_good := lw_good_of 132 (by decide +kernel) (by decide +kernel)
set_option maxRecDepth 20000 in
theorem klX4_9 : Cond.classLink RX4 9 RX5 ∈ lw_good := lw_good_of 133 (by decide +kernel) (by decide +kernel)
set_option maxRecDepth 20000 in
theorem klX4_17 : Cond.classLink RX4 17 "[[I" ∈ lw_good := lw_good_of 135 (by decide +kernel) (by decide +kernel)
set_option maxRecDepth 20000 in
theorem knX5 : Cond.instantiable RX5 4 ∈ lw_good := lw_good_of 137 (by decide +kernel) (by decide +kernel)
set_option maxRecDepth 20000 in
theorem olX5_1 : Cond.methodLink RX5 1 Lib.objectInit ∈ lw_good := lw_good_of 141 (by decide +kernel) (by decide +kernel)
set_option maxRecDepth 20000 in
theorem kcX4_58 : Jvm.Cond.constant RX4 58 (1000000) ∈ lw_good := lw_good_of 165 (by decide +kernel) (by decide +kernel)
set_option maxRecDepth 20000 in
theorem knX0 : Cond.instantiable RX0 6 ∈ lw_good := lw_good_of 206 (by decide +kernel) (by decide +kernel)
set_option maxRecDepth 20000 in
theorem olX0_3 : Cond.methodLink RX0 3 Lib.objectInit ∈ lw_good := lw_good_of 210 (by decide +kernel) (by decide +kernel)
set_option maxRecDepth 20000 in
theorem klX0_28 : Cond.classLink RX0 28 RX2 ∈ lw_good := lw_good_of 211 (by decide +kernel) (by decide +kernel)
set_option maxRecDepth 20000 in
theorem knX2 : Cond.instantiable RX2 3 ∈ lw_good := lw_good_of 213 (by decide +kernel) (by decide +kernel)
set_option maxRecDepth 20000 in
theorem olX2_3 : Cond.methodLink RX2 3 Lib.objectInit ∈ lw_good := lw_good_of 217 (by decide +kernel) (by decide +kernel)
set_option maxRecDepth 20000 in
theorem klX2_9 : Cond.classLink RX2 9 RX1 ∈ lw_good := lw_good_of 218 (by decide +kernel) (by decide +kernel)
set_option maxRecDepth 20000 in
theorem kcX6_198 : Jvm.Cond.constant RX6 198 (1000000) ∈ lw_good := lw_good_of 313 (by decide +kernel) (by decide +kernel)
set_option maxRecDepth 20000 in
theorem klL_13 : Cond.classLink RL 13 "java/lang/IndexOutOfBoundsException" ∈ lw_good := lw_good_of 371 (by decide +kernel) (by decide +kernel)
set_option maxRecDepth 20000 in
theorem klL_15 : Cond.classLink RL 15 "java/lang/IllegalArgumentException" ∈ lw_good := lw_good_of 372 (by decide +kernel) (by decide +kernel)
set_option maxRecDepth 20000 in
theorem klX6_65 : Cond.classLink RX6 65 "java/lang/IndexOutOfBoundsException" ∈ lw_good := lw_good_of 377 (by decide +kernel) (by decide +kernel)
set_option maxRecDepth 20000 in
theorem klX6_76 : Cond.classLink RX6 76 "java/lang/IllegalArgumentException" ∈ lw_good := lw_good_of 444 (by decide +kernel) (by decide +kernel)
set_option maxRecDepth 20000 in
theorem klX6_190 : Cond.classLink RX6 190 RX5 ∈ lw_good := lw_good_of 477 (by decide +kernel) (by decide +kernel)
set_option maxRecDepth 20000 in
theorem mlX4_59 : Cond.methodLink RX4 59 Lib.Math.min.name ∈ lw_good := lw_good_of 496 (by decide +kernel) (by decide +kernel)
set_option maxRecDepth 20000 in
theorem knX3 : Cond.instantiable RX3 5 ∈ lw_good := lw_good_of 669 (by decide +kernel) (by decide +kernel)
set_option maxRecDepth 20000 in
theorem olX3_3 : Cond.methodLink RX3 3 Lib.objectInit ∈ lw_good := lw_good_of 673 (by decide +kernel) (by decide +kernel)
set_option maxRecDepth 20000 in
theorem klL_50 : Cond.classLink RL 50 RX7 ∈ lw_good := lw_good_of 695 (by decide +kernel) (by decide +kernel)
set_option maxRecDepth 20000 in
theorem knX7 : Cond.instantiable RX7 31 ∈ lw_good := lw_good_of 696 (by decide +kernel) (by decide +kernel)
set_option maxRecDepth 20000 in
theorem olX7_1 : Cond.methodLink RX7 1 Lib.objectInit ∈ lw_good := lw_good_of 700 (by decide +kernel) (by decide +kernel)
set_option maxRecDepth 20000 in
theorem ka_boolean : Cond.arrayClass .boolean ∈ lw_good := lw_good_of 795 (by decide +kernel) (by decide +kernel)
set_option maxRecDepth 20000 in
theorem kcX7_124 : Jvm.Cond.constant RX7 124 (1000000) ∈ lw_good := lw_good_of 875 (by decide +kernel) (by decide +kernel)
set_option maxRecDepth 20000 in
theorem ka_long : Cond.arrayClass .long ∈ lw_good := lw_good_of 991 (by decide +kernel) (by decide +kernel)
