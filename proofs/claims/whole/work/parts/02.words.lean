/-! the words of the tables that the methods use -/
def W0 : List Cond := [.selects RXF yXF_componentOf yXF_componentOf,
  .selects RXG yXG_nearToAny yXG_nearToAny,
  .selects RXF yXF_treeOf yXF_treeOf,
  .selects RXT yXT_findSplits yXT_findSplits,
  .selects RXT yXT_isSplit yXT_isSplit,
  .selects RXT yXT_findNodes yXT_findNodes,
  .selects RXT yXT_isStrong yXT_isStrong,
  .selects RXF yXF_hasNode yXF_hasNode,
  .selects RXT yXT_findJoins yXT_findJoins,
  .selects RXT yXT_findParts yXT_findParts,
  .selects RXT yXT_partWith yXT_partWith,
  .selects RXT yXT_addPart yXT_addPart,
  .selects RXT yXT_centreIndex yXT_centreIndex,
  .selects RXE yXE_run yXE_run,
  .selects RXE yXE_nextStep yXE_nextStep,
  .selects RXE yXE_stepAt yXE_stepAt,
  .selects RXC yXC_coverWith yXC_coverWith,
  .selects RXC yXC_fewestWith yXC_fewestWith,
  .selects RXM yXM_is yXM_is,
  .selects RXM yXM_within yXM_within,
  .selects RXM yXM_find yXM_find,
  .selects RXM yXM_complete yXM_complete,
  .selects RXM yXM_nodeSet yXM_nodeSet,
  .selects RXM yXM_open yXM_open,
  .selects RXM yXM_isPart yXM_isPart,
  .selects RXM yXM_middle yXM_middle,
  .selects RXM yXM_links yXM_links,
  .selects RXM yXM_joined yXM_joined,
  .selects RXM yXM_partOf yXM_partOf,
  .selects RXM yXM_fine yXM_fine,
  .selects RXM yXM_eliminate yXM_eliminate,
  .selects RXM yXM_way yXM_way,
  .selects RXM yXM_edges yXM_edges,
  .selects RXM yXM_best yXM_best,
  .selects RXM yXM_clique yXM_clique,
  .initialized RXL,
  .initialized RXF,
  .initialized RXG,
  .initialized RXT,
  .initialized RXE,
  .initialized RXC,
  .initialized RXM,
  .initialized RXJ,
  .initialized "java/lang/Math",
  .classLink RXL 7 RXF,
  .instantiable RXF 4,
  .methodLink RXL 15 yXF_init,
  .instanceMethod yXF_init,
  .code yXF_init cXF_init 2 none,
  .methodLink RXF 1 objectInit,
  .instanceMethod objectInit,
  .code objectInit ⟨#[0xb1]⟩ 1 none,
  .classLink RXF 7 RXG,
  .instantiable RXG 2,
  .methodLink RXF 11 yXG_init,
  .instanceMethod yXG_init,
  .code yXG_init cXG_init 2 none,
  .methodLink RXG 1 objectInit,
  .fieldLink RXG 7 "SplitForest$Graph" "size" "I",
  .fieldLink RXG 13 "SplitForest$Graph" "near" "[I",
  .laysFinal RXG "SplitForest$Graph" "size" "I",
  .laysFinal RXG "SplitForest$Graph" "near" "[I",
  .arrayClass .int,
  .classLink RXF 18 RXT,
  .instantiable RXT 10,
  .methodLink RXF 20 yXT_init,
  .instanceMethod yXT_init,
  .code yXT_init cXT_init 2 none,
  .methodLink RXT 3 objectInit,
  .methodLink RXT 15 yXG_size,
  .instanceMethod yXG_size,
  .selects RXG yXG_size yXG_size,
  .code yXG_size cXG_size 1 (some .int),
  .fieldLink RXT 9 "SplitForest$SplitTree" "graph" "LSplitForest$Graph;",
  .fieldLink RXT 21 "SplitForest$SplitTree" "splitSets" "[I",
  .fieldLink RXT 44 "SplitForest$SplitTree" "splitCount" "I",
  .fieldLink RXT 25 "SplitForest$SplitTree" "nodeSets" "[I",
  .fieldLink RXT 47 "SplitForest$SplitTree" "nodeCount" "I",
  .fieldLink RXT 28 "SplitForest$SplitTree" "partSets" "[I",
  .fieldLink RXT 31 "SplitForest$SplitTree" "degrees" "[I",
  .fieldLink RXT 54 "SplitForest$SplitTree" "partCount" "I",
  .fieldLink RXT 60 "SplitForest$SplitTree" "pairsJoined" "I",
  .fieldLink RXT 34 "SplitForest$SplitTree" "whole" "I",
  .laysFinal RXT "SplitForest$SplitTree" "graph" "LSplitForest$Graph;",
  .laysFinal RXT "SplitForest$SplitTree" "splitSets" "[I",
  .lays RXT "SplitForest$SplitTree" "splitCount" "I",
  .laysFinal RXT "SplitForest$SplitTree" "nodeSets" "[I",
  .lays RXT "SplitForest$SplitTree" "nodeCount" "I",
  .laysFinal RXT "SplitForest$SplitTree" "partSets" "[I",
  .laysFinal RXT "SplitForest$SplitTree" "degrees" "[I",
  .lays RXT "SplitForest$SplitTree" "partCount" "I",
  .lays RXT "SplitForest$SplitTree" "pairsJoined" "I",
  .lays RXT "SplitForest$SplitTree" "whole" "I",
  .classLink RXF 27 RXE,
  .instantiable RXE 4,
  .methodLink RXF 29 yXE_init,
  .instanceMethod yXE_init,
  .code yXE_init cXE_init 2 none,
  .methodLink RXE 3 objectInit,
  .methodLink RXE 15 yXG_size,
  .fieldLink RXE 9 "SplitForest$Elimination" "graph" "LSplitForest$Graph;",
  .fieldLink RXE 21 "SplitForest$Elimination" "steps" "[I",
  .fieldLink RXE 29 "SplitForest$Elimination" "stepCount" "I",
  .fieldLink RXE 41 "SplitForest$Elimination" "left" "I",
  .laysFinal RXE "SplitForest$Elimination" "graph" "LSplitForest$Graph;",
  .laysFinal RXE "SplitForest$Elimination" "steps" "[I",
  .lays RXE "SplitForest$Elimination" "stepCount" "I",
  .lays RXE "SplitForest$Elimination" "left" "I",
  .classLink RXF 34 RXC,
  .instantiable RXC 2,
  .methodLink RXF 36 yXC_init,
  .instanceMethod yXC_init,
  .code yXC_init cXC_init 2 none,
  .methodLink RXC 1 objectInit,
  .methodLink RXC 13 yXG_size,
  .fieldLink RXC 7 "SplitForest$Choice" "graph" "LSplitForest$Graph;",
  .fieldLink RXC 19 "SplitForest$Choice" "fewest" "[I",
  .laysFinal RXC "SplitForest$Choice" "graph" "LSplitForest$Graph;",
  .laysFinal RXC "SplitForest$Choice" "fewest" "[I",
  .fieldLink RXF 14 "SplitForest" "graph" "LSplitForest$Graph;",
  .fieldLink RXF 23 "SplitForest" "tree" "LSplitForest$SplitTree;",
  .fieldLink RXF 30 "SplitForest" "elimination" "LSplitForest$Elimination;",
  .fieldLink RXF 37 "SplitForest" "choice" "LSplitForest$Choice;",
  .laysFinal RXF "SplitForest" "graph" "LSplitForest$Graph;",
  .laysFinal RXF "SplitForest" "tree" "LSplitForest$SplitTree;",
  .laysFinal RXF "SplitForest" "elimination" "LSplitForest$Elimination;",
  .laysFinal RXF "SplitForest" "choice" "LSplitForest$Choice;",
  .methodLink RXL 21 yXF_vertices,
  .instanceMethod yXF_vertices,
  .selects RXF yXF_vertices yXF_vertices,
  .code yXF_vertices cXF_vertices 1 (some .int),
  .methodLink RXF 41 yXG_size,
  .methodLink RXL 26 yXF_flip,
  .instanceMethod yXF_flip,
  .selects RXF yXF_flip yXF_flip,
  .code yXF_flip cXF_flip 3 (some .boolean),
  .methodLink RXF 45 yXG_has,
  .instanceMethod yXG_has,
  .selects RXG yXG_has yXG_has,
  .code yXG_has cXG_has 2 (some .boolean),
  .methodLink RXF 49 yXG_toggle,
  .instanceMethod yXG_toggle,
  .selects RXG yXG_toggle yXG_toggle,
  .code yXG_toggle cXG_toggle 3 none,
  .methodLink RXF 53 yXT_forget,
  .instanceMethod yXT_forget,
  .selects RXT yXT_forget yXT_forget,
  .code yXT_forget cXT_forget 1 none,
  .methodLink RXF 56 yXG_edge,
  .instanceMethod yXG_edge,
  .selects RXG yXG_edge yXG_edge,
  .code yXG_edge cXG_edge 3 (some .boolean),
  .static yXF_contains,
  .code yXF_contains cXF_contains 2 (some .boolean),
  .methodLink RXL 31 yXF_neighbours,
  .instanceMethod yXF_neighbours,
  .selects RXF yXF_neighbours yXF_neighbours,
  .code yXF_neighbours cXF_neighbours 3 (some .boolean),
  .methodLink RXL 35 yXF_component,
  .instanceMethod yXF_component,
  .selects RXF yXF_component yXF_component,
  .code yXF_component cXF_component 2 (some .int),
  .methodLink RXF 60 yXF_componentOf,
  .instanceMethod yXF_componentOf,
  .code yXF_componentOf cXF_componentOf 2 (some .int),
  .methodLink RXF 128 yXG_all,
  .instanceMethod yXG_all,
  .selects RXG yXG_all yXG_all,
  .code yXG_all cXG_all 1 (some .int),
  .methodLink RXF 131 yXG_reached,
  .instanceMethod yXG_reached,
  .selects RXG yXG_reached yXG_reached,
  .code yXG_reached cXG_reached 6 (some .int),
  .methodLink RXG 23 yXG_nearToAny,
  .instanceMethod yXG_nearToAny,
  .code yXG_nearToAny cXG_nearToAny 5 (some .int),
  .methodLink RXL 40 yXF_splits,
  .instanceMethod yXF_splits,
  .selects RXF yXF_splits yXF_splits,
  .code yXF_splits cXF_splits 2 (some .int),
  .methodLink RXF 64 yXF_treeOf,
  .instanceMethod yXF_treeOf,
  .code yXF_treeOf cXF_treeOf 2 (some (.object "SplitForest$SplitTree")),
  .methodLink RXF 134 yXT_growFor,
  .instanceMethod yXT_growFor,
  .selects RXT yXT_growFor yXT_growFor,
  .code yXT_growFor cXT_growFor 2 none,
  .methodLink RXT 38 yXT_findSplits,
  .instanceMethod yXT_findSplits,
  .code yXT_findSplits cXT_findSplits 3 none,
  .methodLink RXT 78 yXT_isSplit,
  .instanceMethod yXT_isSplit,
  .code yXT_isSplit cXT_isSplit 6 (some .boolean),
  .methodLink RXT 81 yXJ_bitCount,
  .static yXJ_bitCount,
  .code yXJ_bitCount cXJ_bitCount 1 (some .int),
  .constant RXJ 265 1431655765,
  .constant RXJ 266 858993459,
  .constant RXJ 267 252645135,
  .methodLink RXT 89 yXG_nearInside,
  .instanceMethod yXG_nearInside,
  .selects RXG yXG_nearInside yXG_nearInside,
  .code yXG_nearInside cXG_nearInside 3 (some .int),
  .methodLink RXT 41 yXT_findNodes,
  .instanceMethod yXT_findNodes,
  .code yXT_findNodes cXT_findNodes 2 none,
  .methodLink RXT 92 yXT_isStrong,
  .instanceMethod yXT_isStrong,
  .code yXT_isStrong cXT_isStrong 4 (some .boolean),
  .methodLink RXF 68 yXT_splitCount,
  .instanceMethod yXT_splitCount,
  .selects RXT yXT_splitCount yXT_splitCount,
  .code yXT_splitCount cXT_splitCount 1 (some .int),
  .methodLink RXL 44 yXF_strong,
  .instanceMethod yXF_strong,
  .selects RXF yXF_strong yXF_strong,
  .code yXF_strong cXF_strong 2 (some .int),
  .methodLink RXF 71 yXT_nodeCount,
  .instanceMethod yXT_nodeCount,
  .selects RXT yXT_nodeCount yXT_nodeCount,
  .code yXT_nodeCount cXT_nodeCount 1 (some .int),
  .methodLink RXL 48 yXF_set,
  .instanceMethod yXF_set,
  .selects RXF yXF_set yXF_set,
  .code yXF_set cXF_set 3 (some .int),
  .methodLink RXF 74 yXF_hasNode,
  .instanceMethod yXF_hasNode,
  .code yXF_hasNode cXF_hasNode 3 (some .boolean),
  .methodLink RXF 77 yXT_nodeSet,
  .instanceMethod yXT_nodeSet,
  .selects RXT yXT_nodeSet yXT_nodeSet,
  .code yXT_nodeSet cXT_nodeSet 2 (some .int),
  .methodLink RXL 53 yXF_kind,
  .instanceMethod yXF_kind,
  .selects RXF yXF_kind yXF_kind,
  .code yXF_kind cXF_kind 3 (some .int),
  .methodLink RXF 80 yXT_nodeKind,
  .instanceMethod yXT_nodeKind,
  .selects RXT yXT_nodeKind yXT_nodeKind,
  .code yXT_nodeKind cXT_nodeKind 2 (some .int),
  .methodLink RXT 57 yXT_findJoins,
  .instanceMethod yXT_findJoins,
  .code yXT_findJoins cXT_findJoins 4 none,
  .methodLink RXT 50 yXT_findParts,
  .instanceMethod yXT_findParts,
  .code yXT_findParts cXT_findParts 5 none,
  .methodLink RXT 70 yXT_partWith,
  .instanceMethod yXT_partWith,
  .code yXT_partWith cXT_partWith 7 (some .int),
  .methodLink RXT 96 yXT_addPart,
  .instanceMethod yXT_addPart,
  .code yXT_addPart cXT_addPart 3 none,
  .methodLink RXT 74 yXG_joined,
  .instanceMethod yXG_joined,
  .selects RXG yXG_joined yXG_joined,
  .code yXG_joined cXG_joined 3 (some .boolean),
  .methodLink RXT 63 yXT_centreIndex,
  .instanceMethod yXT_centreIndex,
  .code yXT_centreIndex cXT_centreIndex 2 (some .int),
  .methodLink RXL 57 yXF_parts,
  .instanceMethod yXF_parts,
  .selects RXF yXF_parts yXF_parts,
  .code yXF_parts cXF_parts 3 (some .int),
  .methodLink RXF 83 yXT_partCount,
  .instanceMethod yXT_partCount,
  .selects RXT yXT_partCount yXT_partCount,
  .code yXT_partCount cXT_partCount 2 (some .int),
  .methodLink RXL 61 yXF_part,
  .instanceMethod yXF_part,
  .selects RXF yXF_part yXF_part,
  .code yXF_part cXF_part 4 (some .int),
  .methodLink RXF 86 yXT_partSet,
  .instanceMethod yXT_partSet,
  .selects RXT yXT_partSet yXT_partSet,
  .code yXT_partSet cXT_partSet 3 (some .int),
  .methodLink RXL 66 yXF_centre,
  .instanceMethod yXF_centre,
  .selects RXF yXF_centre yXF_centre,
  .code yXF_centre cXF_centre 3 (some .int),
  .methodLink RXF 90 yXT_centreSet,
  .instanceMethod yXT_centreSet,
  .selects RXT yXT_centreSet yXT_centreSet,
  .code yXT_centreSet cXT_centreSet 2 (some .int),
  .methodLink RXT 66 yXT_nodeKind,
  .methodLink RXL 70 yXF_linked,
  .instanceMethod yXF_linked,
  .selects RXF yXF_linked yXF_linked,
  .code yXF_linked cXF_linked 3 (some .boolean),
  .methodLink RXF 93 yXF_contains,
  .methodLink RXF 96 yXT_links,
  .instanceMethod yXT_links,
  .selects RXT yXT_links yXT_links,
  .code yXT_links cXT_links 6 (some .boolean),
  .methodLink RXL 74 yXF_hereditary,
  .instanceMethod yXF_hereditary,
  .selects RXF yXF_hereditary yXF_hereditary,
  .code yXF_hereditary cXF_hereditary 2 (some .boolean),
  .methodLink RXF 99 yXE_clears,
  .instanceMethod yXE_clears,
  .selects RXE yXE_clears yXE_clears,
  .code yXE_clears cXE_clears 5 (some .boolean),
  .methodLink RXE 37 yXG_reached,
  .methodLink RXE 25 yXE_run,
  .instanceMethod yXE_run,
  .code yXE_run cXE_run 3 none,
  .methodLink RXE 54 yXE_nextStep,
  .instanceMethod yXE_nextStep,
  .code yXE_nextStep cXE_nextStep 3 (some .int),
  .methodLink RXE 57 yXE_stepAt,
  .instanceMethod yXE_stepAt,
  .code yXE_stepAt cXE_stepAt 6 (some .int),
  .methodLink RXE 60 yXG_nearInside,
  .methodLink RXE 44 yXJ_bitCount,
  .methodLink RXE 63 yXG_areTwins,
  .instanceMethod yXG_areTwins,
  .selects RXG yXG_areTwins yXG_areTwins,
  .code yXG_areTwins cXG_areTwins 5 (some .boolean),
  .methodLink RXL 79 yXF_step,
  .instanceMethod yXF_step,
  .selects RXF yXF_step yXF_step,
  .code yXF_step cXF_step 3 (some .int),
  .methodLink RXF 102 yXE_stepOf,
  .instanceMethod yXE_stepOf,
  .selects RXE yXE_stepOf yXE_stepOf,
  .code yXE_stepOf cXE_stepOf 3 (some .int),
  .methodLink RXL 83 yXF_obstruction,
  .instanceMethod yXF_obstruction,
  .selects RXF yXF_obstruction yXF_obstruction,
  .code yXF_obstruction cXF_obstruction 2 (some .int),
  .methodLink RXF 105 yXE_obstructionIn,
  .instanceMethod yXE_obstructionIn,
  .selects RXE yXE_obstructionIn yXE_obstructionIn,
  .code yXE_obstructionIn cXE_obstructionIn 5 (some .int),
  .methodLink RXE 50 yXE_clears,
  .methodLink RXL 87 yXF_obstacle,
  .instanceMethod yXF_obstacle,
  .selects RXF yXF_obstacle yXF_obstacle,
  .code yXF_obstacle cXF_obstacle 3 (some .int),
  .methodLink RXF 108 yXJ_bitCount,
  .methodLink RXF 113 yXG_edgesInside,
  .instanceMethod yXG_edgesInside,
  .selects RXG yXG_edgesInside yXG_edgesInside,
  .code yXG_edgesInside cXG_edgesInside 4 (some .int),
  .methodLink RXG 27 yXJ_bitCount,
  .methodLink RXF 116 yXF_obstacleKind,
  .static yXF_obstacleKind,
  .code yXF_obstacleKind cXF_obstacleKind 2 (some .int),
  .methodLink RXL 91 yXF_apart,
  .instanceMethod yXF_apart,
  .selects RXF yXF_apart yXF_apart,
  .code yXF_apart cXF_apart 2 (some .int),
  .methodLink RXF 119 yXF_hereditary,
  .methodLink RXF 122 yXC_largestApart,
  .instanceMethod yXC_largestApart,
  .selects RXC yXC_largestApart yXC_largestApart,
  .code yXC_largestApart cXC_largestApart 4 (some .int),
  .methodLink RXC 23 yXJ_bitCount,
  .methodLink RXC 29 yXG_joined,
  .methodLink RXL 95 yXF_chosen,
  .instanceMethod yXF_chosen,
  .selects RXF yXF_chosen yXF_chosen,
  .code yXF_chosen cXF_chosen 2 (some .int),
  .methodLink RXL 99 yXF_cover,
  .instanceMethod yXF_cover,
  .selects RXF yXF_cover yXF_cover,
  .code yXF_cover cXF_cover 2 (some .int),
  .methodLink RXF 125 yXC_fewestCliques,
  .instanceMethod yXC_fewestCliques,
  .selects RXC yXC_fewestCliques yXC_fewestCliques,
  .code yXC_fewestCliques cXC_fewestCliques 4 (some .int),
  .methodLink RXC 38 yXC_coverWith,
  .instanceMethod yXC_coverWith,
  .code yXC_coverWith cXC_coverWith 4 none,
  .methodLink RXC 42 yXC_fewestWith,
  .instanceMethod yXC_fewestWith,
  .code yXC_fewestWith cXC_fewestWith 6 (some .int),
  .methodLink RXC 46 yXG_nearInside,
  .methodLink RXC 49 Lib.Math.min.name,
  .static Lib.Math.min.name,
  .code Lib.Math.min.name Lib.Math.min.code 2 (some .int),
  .methodLink RXL 9 yXL_cell,
  .static yXL_cell,
  .code yXL_cell cXL_cell 2 (some .int),
  .classLink RXL 18 RXM,
  .instantiable RXM 12,
  .methodLink RXL 20 yXM_init,
  .instanceMethod yXM_init,
  .code yXM_init cXM_init 2 none,
  .methodLink RXM 1 objectInit,
  .fieldLink RXM 28 "SplitForestModel" "n" "I",
  .fieldLink RXM 7 "SplitForestModel" "near" "[I",
  .fieldLink RXM 40 "SplitForestModel" "splits" "I",
  .fieldLink RXM 13 "SplitForestModel" "split" "[I",
  .fieldLink RXM 54 "SplitForestModel" "strongs" "I",
  .fieldLink RXM 16 "SplitForestModel" "strong" "[I",
  .fieldLink RXM 73 "SplitForestModel" "parts" "I",
  .fieldLink RXM 19 "SplitForestModel" "part" "[I",
  .fieldLink RXM 96 "SplitForestModel" "steps" "I",
  .fieldLink RXM 22 "SplitForestModel" "step" "[I",
  .fieldLink RXM 102 "SplitForestModel" "whole" "Z",
  .fieldLink RXM 25 "SplitForestModel" "covers" "[I",
  .laysFinal RXM "SplitForestModel" "n" "I",
  .laysFinal RXM "SplitForestModel" "near" "[I",
  .lays RXM "SplitForestModel" "splits" "I",
  .laysFinal RXM "SplitForestModel" "split" "[I",
  .lays RXM "SplitForestModel" "strongs" "I",
  .laysFinal RXM "SplitForestModel" "strong" "[I",
  .lays RXM "SplitForestModel" "parts" "I",
  .laysFinal RXM "SplitForestModel" "part" "[I",
  .lays RXM "SplitForestModel" "steps" "I",
  .laysFinal RXM "SplitForestModel" "step" "[I",
  .lays RXM "SplitForestModel" "whole" "Z",
  .laysFinal RXM "SplitForestModel" "covers" "[I",
  .methodLink RXL 25 yXM_vertices,
  .instanceMethod yXM_vertices,
  .selects RXM yXM_vertices yXM_vertices,
  .code yXM_vertices cXM_vertices 1 (some .int),
  .methodLink RXL 30 yXM_flip,
  .instanceMethod yXM_flip,
  .selects RXM yXM_flip yXM_flip,
  .code yXM_flip cXM_flip 3 (some .boolean),
  .methodLink RXM 32 yXM_is,
  .instanceMethod yXM_is,
  .code yXM_is cXM_is 2 (some .boolean),
  .methodLink RXL 34 yXM_neighbours,
  .instanceMethod yXM_neighbours,
  .selects RXM yXM_neighbours yXM_neighbours,
  .code yXM_neighbours cXM_neighbours 3 (some .boolean),
  .methodLink RXL 39 yXM_component,
  .instanceMethod yXM_component,
  .selects RXM yXM_component yXM_component,
  .code yXM_component cXM_component 2 (some .int),
  .methodLink RXM 36 yXM_within,
  .instanceMethod yXM_within,
  .code yXM_within cXM_within 6 (some .int),
  .methodLink RXL 43 yXM_splits,
  .instanceMethod yXM_splits,
  .selects RXM yXM_splits yXM_splits,
  .code yXM_splits cXM_splits 2 (some .int),
  .methodLink RXM 60 yXM_component,
  .methodLink RXM 63 yXM_find,
  .instanceMethod yXM_find,
  .code yXM_find cXM_find 6 none,
  .methodLink RXM 43 yXM_least,
  .static yXM_least,
  .code yXM_least cXM_least 2 (some .int),
  .methodLink RXM 47 yXM_size,
  .static yXM_size,
  .code yXM_size cXM_size 3 (some .int),
  .methodLink RXM 50 yXM_complete,
  .instanceMethod yXM_complete,
  .code yXM_complete cXM_complete 7 (some .boolean),
  .methodLink RXM 57 yXM_cross,
  .static yXM_cross,
  .code yXM_cross cXM_cross 2 (some .boolean),
  .methodLink RXL 47 yXM_strong,
  .instanceMethod yXM_strong,
  .selects RXM yXM_strong yXM_strong,
  .code yXM_strong cXM_strong 2 (some .int),
  .methodLink RXL 52 yXM_set,
  .instanceMethod yXM_set,
  .selects RXM yXM_set yXM_set,
  .code yXM_set cXM_set 3 (some .int),
  .methodLink RXM 67 yXM_nodeSet,
  .instanceMethod yXM_nodeSet,
  .code yXM_nodeSet cXM_nodeSet 4 (some .int),
  .methodLink RXL 56 yXM_kind,
  .instanceMethod yXM_kind,
  .selects RXM yXM_kind yXM_kind,
  .code yXM_kind cXM_kind 4 (some .int),
  .methodLink RXM 86 yXM_open,
  .instanceMethod yXM_open,
  .code yXM_open cXM_open 6 (some .boolean),
  .methodLink RXM 76 yXM_isPart,
  .instanceMethod yXM_isPart,
  .code yXM_isPart cXM_isPart 10 (some .boolean),
  .methodLink RXM 70 yXM_inside,
  .static yXM_inside,
  .code yXM_inside cXM_inside 2 (some .boolean),
  .methodLink RXM 89 yXM_middle,
  .instanceMethod yXM_middle,
  .code yXM_middle cXM_middle 4 (some .int),
  .methodLink RXM 83 yXM_links,
  .instanceMethod yXM_links,
  .code yXM_links cXM_links 4 (some .int),
  .methodLink RXM 80 yXM_joined,
  .instanceMethod yXM_joined,
  .code yXM_joined cXM_joined 5 (some .boolean),
  .methodLink RXL 60 yXM_parts,
  .instanceMethod yXM_parts,
  .selects RXM yXM_parts yXM_parts,
  .code yXM_parts cXM_parts 3 (some .int),
  .methodLink RXL 65 yXM_part,
  .instanceMethod yXM_part,
  .selects RXM yXM_part yXM_part,
  .code yXM_part cXM_part 4 (some .int),
  .methodLink RXL 69 yXM_centre,
  .instanceMethod yXM_centre,
  .selects RXM yXM_centre yXM_centre,
  .code yXM_centre cXM_centre 4 (some .int),
  .methodLink RXL 73 yXM_linked,
  .instanceMethod yXM_linked,
  .selects RXM yXM_linked yXM_linked,
  .code yXM_linked cXM_linked 9 (some .boolean),
  .methodLink RXM 93 yXM_partOf,
  .instanceMethod yXM_partOf,
  .code yXM_partOf cXM_partOf 4 (some .int),
  .methodLink RXL 78 yXM_hereditary,
  .instanceMethod yXM_hereditary,
  .selects RXM yXM_hereditary yXM_hereditary,
  .code yXM_hereditary cXM_hereditary 2 (some .boolean),
  .methodLink RXM 109 yXM_fine,
  .instanceMethod yXM_fine,
  .code yXM_fine cXM_fine 4 (some .boolean),
  .methodLink RXM 106 yXM_eliminate,
  .instanceMethod yXM_eliminate,
  .code yXM_eliminate cXM_eliminate 5 none,
  .methodLink RXM 99 yXM_way,
  .instanceMethod yXM_way,
  .code yXM_way cXM_way 7 (some .int),
  .methodLink RXL 82 yXM_step,
  .instanceMethod yXM_step,
  .selects RXM yXM_step yXM_step,
  .code yXM_step cXM_step 3 (some .int),
  .methodLink RXL 86 yXM_obstruction,
  .instanceMethod yXM_obstruction,
  .selects RXM yXM_obstruction yXM_obstruction,
  .code yXM_obstruction cXM_obstruction 5 (some .int),
  .methodLink RXL 90 yXM_obstacle,
  .instanceMethod yXM_obstacle,
  .selects RXM yXM_obstacle yXM_obstacle,
  .code yXM_obstacle cXM_obstacle 5 (some .int),
  .methodLink RXM 112 yXM_obstruction,
  .methodLink RXM 115 yXM_edges,
  .instanceMethod yXM_edges,
  .code yXM_edges cXM_edges 4 (some .int),
  .methodLink RXL 94 yXM_apart,
  .instanceMethod yXM_apart,
  .selects RXM yXM_apart yXM_apart,
  .code yXM_apart cXM_apart 2 (some .int),
  .methodLink RXM 118 yXM_hereditary,
  .methodLink RXM 121 yXM_best,
  .instanceMethod yXM_best,
  .code yXM_best cXM_best 6 (some .int),
  .methodLink RXL 98 yXM_chosen,
  .instanceMethod yXM_chosen,
  .selects RXM yXM_chosen yXM_chosen,
  .code yXM_chosen cXM_chosen 2 (some .int),
  .methodLink RXL 102 yXM_cover,
  .instanceMethod yXM_cover,
  .selects RXM yXM_cover yXM_cover,
  .code yXM_cover cXM_cover 6 (some .int),
  .methodLink RXM 125 yXM_clique,
  .instanceMethod yXM_clique,
  .code yXM_clique cXM_clique 3 (some .boolean)]
set_option maxRecDepth 100000 in
theorem W0_pl : W0 = ([0,1,2,3,4,5,6,7,8,9,10,11,12,13,14,15,16,17,18,19,20,21,22,23,24,25,26,27,28,29,30,31,32,33,34,35,36,37,38,39,40,41,42,43,44,45,46,47,48,49,50,51,52,53,54,55,56,57,58,59,60,62,65,66,67,68,69,70,71,72,73,74,75,76,77,78,79,80,81,82,83,84,85,86,88,90,92,94,96,98,100,102,104,107,108,109,110,111,112,113,114,115,116,117,118,120,122,124,127,128,129,130,131,132,133,134,135,136,138,141,142,143,144,145,147,149,151,154,155,156,157,158,159,160,161,162,163,164,165,166,167,168,169,170,171,172,173,174,175,176,177,178,180,181,182,183,184,185,186,187,188,189,190,192,193,194,195,196,197,198,199,200,201,202,204,205,206,207,208,209,210,212,213,214,215,216,217,218,220,221,222,224,225,226,227,228,229,230,231,233,234,235,236,237,239,240,241,243,244,245,246,247,248,249,250,251,252,253,254,255,256,257,258,259,260,261,263,264,265,266,267,268,269,270,271,272,273,274,275,276,277,279,280,281,283,284,285,287,288,289,291,292,293,294,295,296,297,299,300,301,302,303,304,305,306,307,308,309,310,311,312,313,314,315,316,317,318,319,320,321,322,323,324,325,326,327,328,329,330,331,332,333,334,335,336,337,338,339,340,341,342,344,345,347,348,349,351,352,353,355,356,357,358,359,360,361,362,363,364,365,366,367,368,369,370,371,372,373,374,375,376,377,378,379,380,381,382,383,384,385,386,387,388,389,390,391,392,393,394,395,396,397,398,399,400,401,402,403,404,405,406,407,408,409,410,411,412,413,414,415,417,419,420,421,423,424,425,426,427,428,429,430,431,432,433,434,435,436,437,438,439,440,441,442,443,444,445,446,447,448,449,450,452,454,456,458,460,462,464,466,468,470,472,475,476,477,478,479,480,481,482,483,485,486,487,488,489,490,491,492,493,494,495,497,498,499,500,501,502,503,504,506,507,508,509,510,511,512,513,514,516,517,518,519,520,521,522,523,524,525,526,527,528,529,531,532,533,534,535,536,537,539,540,541,543,544,545,546,547,548,550,551,552,554,555,556,558,559,560,561,562,563,564,565,566,567,568,569,570,571,572,573,574,575,576,578,579,580,581,582,583,584,586,587,588,590,591,592,594,595,596,597,598,599,600,601,602,603,604,605,606,607,608,609,611,612,613,614,615,616,617,618,620,621,622,623,624,625,626,627,628,629,630,632,633] : List Nat).filterMap (fun i => lw_tbl[i]?) := by rfl
theorem W0_in : ∀ w ∈ W0, w ∈ lw_tbl := by
  intro w hw
  rw [W0_pl] at hw
  obtain ⟨i, -, hi⟩ := List.mem_filterMap.mp hw
  exact List.mem_of_getElem? hi
set_option maxRecDepth 100000 in
theorem W0_good : W0.all goodWord = true := by decide +kernel
theorem W0g : GoodIn W0 W0 := fun w hw => ⟨hw, good_of_word (List.all_eq_true.mp W0_good w hw)⟩
set_option maxRecDepth 100000 in
theorem wd_0 : (.selects RXF yXF_componentOf yXF_componentOf : Cond) ∈ W0 := List.mem_of_getElem? (i := 0) rfl
set_option maxRecDepth 100000 in
theorem wd_1 : (.selects RXG yXG_nearToAny yXG_nearToAny : Cond) ∈ W0 := List.mem_of_getElem? (i := 1) rfl
set_option maxRecDepth 100000 in
theorem wd_2 : (.selects RXF yXF_treeOf yXF_treeOf : Cond) ∈ W0 := List.mem_of_getElem? (i := 2) rfl
set_option maxRecDepth 100000 in
theorem wd_3 : (.selects RXT yXT_findSplits yXT_findSplits : Cond) ∈ W0 := List.mem_of_getElem? (i := 3) rfl
set_option maxRecDepth 100000 in
theorem wd_4 : (.selects RXT yXT_isSplit yXT_isSplit : Cond) ∈ W0 := List.mem_of_getElem? (i := 4) rfl
set_option maxRecDepth 100000 in
theorem wd_5 : (.selects RXT yXT_findNodes yXT_findNodes : Cond) ∈ W0 := List.mem_of_getElem? (i := 5) rfl
set_option maxRecDepth 100000 in
theorem wd_6 : (.selects RXT yXT_isStrong yXT_isStrong : Cond) ∈ W0 := List.mem_of_getElem? (i := 6) rfl
set_option maxRecDepth 100000 in
theorem wd_7 : (.selects RXF yXF_hasNode yXF_hasNode : Cond) ∈ W0 := List.mem_of_getElem? (i := 7) rfl
set_option maxRecDepth 100000 in
theorem wd_8 : (.selects RXT yXT_findJoins yXT_findJoins : Cond) ∈ W0 := List.mem_of_getElem? (i := 8) rfl
set_option maxRecDepth 100000 in
theorem wd_9 : (.selects RXT yXT_findParts yXT_findParts : Cond) ∈ W0 := List.mem_of_getElem? (i := 9) rfl
set_option maxRecDepth 100000 in
theorem wd_10 : (.selects RXT yXT_partWith yXT_partWith : Cond) ∈ W0 := List.mem_of_getElem? (i := 10) rfl
set_option maxRecDepth 100000 in
theorem wd_11 : (.selects RXT yXT_addPart yXT_addPart : Cond) ∈ W0 := List.mem_of_getElem? (i := 11) rfl
set_option maxRecDepth 100000 in
theorem wd_12 : (.selects RXT yXT_centreIndex yXT_centreIndex : Cond) ∈ W0 := List.mem_of_getElem? (i := 12) rfl
set_option maxRecDepth 100000 in
theorem wd_13 : (.selects RXE yXE_run yXE_run : Cond) ∈ W0 := List.mem_of_getElem? (i := 13) rfl
set_option maxRecDepth 100000 in
theorem wd_14 : (.selects RXE yXE_nextStep yXE_nextStep : Cond) ∈ W0 := List.mem_of_getElem? (i := 14) rfl
set_option maxRecDepth 100000 in
theorem wd_15 : (.selects RXE yXE_stepAt yXE_stepAt : Cond) ∈ W0 := List.mem_of_getElem? (i := 15) rfl
set_option maxRecDepth 100000 in
theorem wd_16 : (.selects RXC yXC_coverWith yXC_coverWith : Cond) ∈ W0 := List.mem_of_getElem? (i := 16) rfl
set_option maxRecDepth 100000 in
theorem wd_17 : (.selects RXC yXC_fewestWith yXC_fewestWith : Cond) ∈ W0 := List.mem_of_getElem? (i := 17) rfl
set_option maxRecDepth 100000 in
theorem wd_18 : (.selects RXM yXM_is yXM_is : Cond) ∈ W0 := List.mem_of_getElem? (i := 18) rfl
set_option maxRecDepth 100000 in
theorem wd_19 : (.selects RXM yXM_within yXM_within : Cond) ∈ W0 := List.mem_of_getElem? (i := 19) rfl
set_option maxRecDepth 100000 in
theorem wd_20 : (.selects RXM yXM_find yXM_find : Cond) ∈ W0 := List.mem_of_getElem? (i := 20) rfl
set_option maxRecDepth 100000 in
theorem wd_21 : (.selects RXM yXM_complete yXM_complete : Cond) ∈ W0 := List.mem_of_getElem? (i := 21) rfl
set_option maxRecDepth 100000 in
theorem wd_22 : (.selects RXM yXM_nodeSet yXM_nodeSet : Cond) ∈ W0 := List.mem_of_getElem? (i := 22) rfl
set_option maxRecDepth 100000 in
theorem wd_23 : (.selects RXM yXM_open yXM_open : Cond) ∈ W0 := List.mem_of_getElem? (i := 23) rfl
set_option maxRecDepth 100000 in
theorem wd_24 : (.selects RXM yXM_isPart yXM_isPart : Cond) ∈ W0 := List.mem_of_getElem? (i := 24) rfl
set_option maxRecDepth 100000 in
theorem wd_25 : (.selects RXM yXM_middle yXM_middle : Cond) ∈ W0 := List.mem_of_getElem? (i := 25) rfl
set_option maxRecDepth 100000 in
theorem wd_26 : (.selects RXM yXM_links yXM_links : Cond) ∈ W0 := List.mem_of_getElem? (i := 26) rfl
set_option maxRecDepth 100000 in
theorem wd_27 : (.selects RXM yXM_joined yXM_joined : Cond) ∈ W0 := List.mem_of_getElem? (i := 27) rfl
set_option maxRecDepth 100000 in
theorem wd_28 : (.selects RXM yXM_partOf yXM_partOf : Cond) ∈ W0 := List.mem_of_getElem? (i := 28) rfl
set_option maxRecDepth 100000 in
theorem wd_29 : (.selects RXM yXM_fine yXM_fine : Cond) ∈ W0 := List.mem_of_getElem? (i := 29) rfl
set_option maxRecDepth 100000 in
theorem wd_30 : (.selects RXM yXM_eliminate yXM_eliminate : Cond) ∈ W0 := List.mem_of_getElem? (i := 30) rfl
set_option maxRecDepth 100000 in
theorem wd_31 : (.selects RXM yXM_way yXM_way : Cond) ∈ W0 := List.mem_of_getElem? (i := 31) rfl
set_option maxRecDepth 100000 in
theorem wd_32 : (.selects RXM yXM_edges yXM_edges : Cond) ∈ W0 := List.mem_of_getElem? (i := 32) rfl
set_option maxRecDepth 100000 in
theorem wd_33 : (.selects RXM yXM_best yXM_best : Cond) ∈ W0 := List.mem_of_getElem? (i := 33) rfl
set_option maxRecDepth 100000 in
theorem wd_34 : (.selects RXM yXM_clique yXM_clique : Cond) ∈ W0 := List.mem_of_getElem? (i := 34) rfl
set_option maxRecDepth 100000 in
theorem wd_35 : (.initialized RXL : Cond) ∈ W0 := List.mem_of_getElem? (i := 35) rfl
set_option maxRecDepth 100000 in
theorem wd_36 : (.initialized RXF : Cond) ∈ W0 := List.mem_of_getElem? (i := 36) rfl
set_option maxRecDepth 100000 in
theorem wd_37 : (.initialized RXG : Cond) ∈ W0 := List.mem_of_getElem? (i := 37) rfl
set_option maxRecDepth 100000 in
theorem wd_38 : (.initialized RXT : Cond) ∈ W0 := List.mem_of_getElem? (i := 38) rfl
set_option maxRecDepth 100000 in
theorem wd_39 : (.initialized RXE : Cond) ∈ W0 := List.mem_of_getElem? (i := 39) rfl
set_option maxRecDepth 100000 in
theorem wd_40 : (.initialized RXC : Cond) ∈ W0 := List.mem_of_getElem? (i := 40) rfl
set_option maxRecDepth 100000 in
theorem wd_41 : (.initialized RXM : Cond) ∈ W0 := List.mem_of_getElem? (i := 41) rfl
set_option maxRecDepth 100000 in
theorem wd_42 : (.initialized RXJ : Cond) ∈ W0 := List.mem_of_getElem? (i := 42) rfl
set_option maxRecDepth 100000 in
theorem wd_43 : (.initialized "java/lang/Math" : Cond) ∈ W0 := List.mem_of_getElem? (i := 43) rfl
set_option maxRecDepth 100000 in
theorem wd_44 : (.classLink RXL 7 RXF : Cond) ∈ W0 := List.mem_of_getElem? (i := 44) rfl
set_option maxRecDepth 100000 in
theorem wd_45 : (.instantiable RXF 4 : Cond) ∈ W0 := List.mem_of_getElem? (i := 45) rfl
set_option maxRecDepth 100000 in
theorem wd_46 : (.methodLink RXL 15 yXF_init : Cond) ∈ W0 := List.mem_of_getElem? (i := 46) rfl
set_option maxRecDepth 100000 in
theorem wd_47 : (.instanceMethod yXF_init : Cond) ∈ W0 := List.mem_of_getElem? (i := 47) rfl
set_option maxRecDepth 100000 in
theorem wd_48 : (.code yXF_init cXF_init 2 none : Cond) ∈ W0 := List.mem_of_getElem? (i := 48) rfl
set_option maxRecDepth 100000 in
theorem wd_49 : (.methodLink RXF 1 objectInit : Cond) ∈ W0 := List.mem_of_getElem? (i := 49) rfl
set_option maxRecDepth 100000 in
theorem wd_50 : (.instanceMethod objectInit : Cond) ∈ W0 := List.mem_of_getElem? (i := 50) rfl
set_option maxRecDepth 100000 in
theorem wd_51 : (.code objectInit ⟨#[0xb1]⟩ 1 none : Cond) ∈ W0 := List.mem_of_getElem? (i := 51) rfl
set_option maxRecDepth 100000 in
theorem wd_52 : (.classLink RXF 7 RXG : Cond) ∈ W0 := List.mem_of_getElem? (i := 52) rfl
set_option maxRecDepth 100000 in
theorem wd_53 : (.instantiable RXG 2 : Cond) ∈ W0 := List.mem_of_getElem? (i := 53) rfl
set_option maxRecDepth 100000 in
theorem wd_54 : (.methodLink RXF 11 yXG_init : Cond) ∈ W0 := List.mem_of_getElem? (i := 54) rfl
set_option maxRecDepth 100000 in
theorem wd_55 : (.instanceMethod yXG_init : Cond) ∈ W0 := List.mem_of_getElem? (i := 55) rfl
set_option maxRecDepth 100000 in
theorem wd_56 : (.code yXG_init cXG_init 2 none : Cond) ∈ W0 := List.mem_of_getElem? (i := 56) rfl
set_option maxRecDepth 100000 in
theorem wd_57 : (.methodLink RXG 1 objectInit : Cond) ∈ W0 := List.mem_of_getElem? (i := 57) rfl
set_option maxRecDepth 100000 in
theorem wd_58 : (.fieldLink RXG 7 "SplitForest$Graph" "size" "I" : Cond) ∈ W0 := List.mem_of_getElem? (i := 58) rfl
set_option maxRecDepth 100000 in
theorem wd_59 : (.fieldLink RXG 13 "SplitForest$Graph" "near" "[I" : Cond) ∈ W0 := List.mem_of_getElem? (i := 59) rfl
set_option maxRecDepth 100000 in
theorem wd_60 : (.laysFinal RXG "SplitForest$Graph" "size" "I" : Cond) ∈ W0 := List.mem_of_getElem? (i := 60) rfl
set_option maxRecDepth 100000 in
theorem wd_61 : (.laysFinal RXG "SplitForest$Graph" "near" "[I" : Cond) ∈ W0 := List.mem_of_getElem? (i := 61) rfl
set_option maxRecDepth 100000 in
theorem wd_62 : (.arrayClass .int : Cond) ∈ W0 := List.mem_of_getElem? (i := 62) rfl
set_option maxRecDepth 100000 in
theorem wd_63 : (.classLink RXF 18 RXT : Cond) ∈ W0 := List.mem_of_getElem? (i := 63) rfl
set_option maxRecDepth 100000 in
theorem wd_64 : (.instantiable RXT 10 : Cond) ∈ W0 := List.mem_of_getElem? (i := 64) rfl
set_option maxRecDepth 100000 in
theorem wd_65 : (.methodLink RXF 20 yXT_init : Cond) ∈ W0 := List.mem_of_getElem? (i := 65) rfl
set_option maxRecDepth 100000 in
theorem wd_66 : (.instanceMethod yXT_init : Cond) ∈ W0 := List.mem_of_getElem? (i := 66) rfl
set_option maxRecDepth 100000 in
theorem wd_67 : (.code yXT_init cXT_init 2 none : Cond) ∈ W0 := List.mem_of_getElem? (i := 67) rfl
set_option maxRecDepth 100000 in
theorem wd_68 : (.methodLink RXT 3 objectInit : Cond) ∈ W0 := List.mem_of_getElem? (i := 68) rfl
set_option maxRecDepth 100000 in
theorem wd_69 : (.methodLink RXT 15 yXG_size : Cond) ∈ W0 := List.mem_of_getElem? (i := 69) rfl
set_option maxRecDepth 100000 in
theorem wd_70 : (.instanceMethod yXG_size : Cond) ∈ W0 := List.mem_of_getElem? (i := 70) rfl
set_option maxRecDepth 100000 in
theorem wd_71 : (.selects RXG yXG_size yXG_size : Cond) ∈ W0 := List.mem_of_getElem? (i := 71) rfl
set_option maxRecDepth 100000 in
theorem wd_72 : (.code yXG_size cXG_size 1 (some .int) : Cond) ∈ W0 := List.mem_of_getElem? (i := 72) rfl
set_option maxRecDepth 100000 in
theorem wd_73 : (.fieldLink RXT 9 "SplitForest$SplitTree" "graph" "LSplitForest$Graph;" : Cond) ∈ W0 := List.mem_of_getElem? (i := 73) rfl
set_option maxRecDepth 100000 in
theorem wd_74 : (.fieldLink RXT 21 "SplitForest$SplitTree" "splitSets" "[I" : Cond) ∈ W0 := List.mem_of_getElem? (i := 74) rfl
set_option maxRecDepth 100000 in
theorem wd_75 : (.fieldLink RXT 44 "SplitForest$SplitTree" "splitCount" "I" : Cond) ∈ W0 := List.mem_of_getElem? (i := 75) rfl
set_option maxRecDepth 100000 in
theorem wd_76 : (.fieldLink RXT 25 "SplitForest$SplitTree" "nodeSets" "[I" : Cond) ∈ W0 := List.mem_of_getElem? (i := 76) rfl
set_option maxRecDepth 100000 in
theorem wd_77 : (.fieldLink RXT 47 "SplitForest$SplitTree" "nodeCount" "I" : Cond) ∈ W0 := List.mem_of_getElem? (i := 77) rfl
set_option maxRecDepth 100000 in
theorem wd_78 : (.fieldLink RXT 28 "SplitForest$SplitTree" "partSets" "[I" : Cond) ∈ W0 := List.mem_of_getElem? (i := 78) rfl
set_option maxRecDepth 100000 in
theorem wd_79 : (.fieldLink RXT 31 "SplitForest$SplitTree" "degrees" "[I" : Cond) ∈ W0 := List.mem_of_getElem? (i := 79) rfl
set_option maxRecDepth 100000 in
theorem wd_80 : (.fieldLink RXT 54 "SplitForest$SplitTree" "partCount" "I" : Cond) ∈ W0 := List.mem_of_getElem? (i := 80) rfl
set_option maxRecDepth 100000 in
theorem wd_81 : (.fieldLink RXT 60 "SplitForest$SplitTree" "pairsJoined" "I" : Cond) ∈ W0 := List.mem_of_getElem? (i := 81) rfl
set_option maxRecDepth 100000 in
theorem wd_82 : (.fieldLink RXT 34 "SplitForest$SplitTree" "whole" "I" : Cond) ∈ W0 := List.mem_of_getElem? (i := 82) rfl
set_option maxRecDepth 100000 in
theorem wd_83 : (.laysFinal RXT "SplitForest$SplitTree" "graph" "LSplitForest$Graph;" : Cond) ∈ W0 := List.mem_of_getElem? (i := 83) rfl
set_option maxRecDepth 100000 in
theorem wd_84 : (.laysFinal RXT "SplitForest$SplitTree" "splitSets" "[I" : Cond) ∈ W0 := List.mem_of_getElem? (i := 84) rfl
set_option maxRecDepth 100000 in
theorem wd_85 : (.lays RXT "SplitForest$SplitTree" "splitCount" "I" : Cond) ∈ W0 := List.mem_of_getElem? (i := 85) rfl
set_option maxRecDepth 100000 in
theorem wd_86 : (.laysFinal RXT "SplitForest$SplitTree" "nodeSets" "[I" : Cond) ∈ W0 := List.mem_of_getElem? (i := 86) rfl
set_option maxRecDepth 100000 in
theorem wd_87 : (.lays RXT "SplitForest$SplitTree" "nodeCount" "I" : Cond) ∈ W0 := List.mem_of_getElem? (i := 87) rfl
set_option maxRecDepth 100000 in
theorem wd_88 : (.laysFinal RXT "SplitForest$SplitTree" "partSets" "[I" : Cond) ∈ W0 := List.mem_of_getElem? (i := 88) rfl
set_option maxRecDepth 100000 in
theorem wd_89 : (.laysFinal RXT "SplitForest$SplitTree" "degrees" "[I" : Cond) ∈ W0 := List.mem_of_getElem? (i := 89) rfl
set_option maxRecDepth 100000 in
theorem wd_90 : (.lays RXT "SplitForest$SplitTree" "partCount" "I" : Cond) ∈ W0 := List.mem_of_getElem? (i := 90) rfl
set_option maxRecDepth 100000 in
theorem wd_91 : (.lays RXT "SplitForest$SplitTree" "pairsJoined" "I" : Cond) ∈ W0 := List.mem_of_getElem? (i := 91) rfl
set_option maxRecDepth 100000 in
theorem wd_92 : (.lays RXT "SplitForest$SplitTree" "whole" "I" : Cond) ∈ W0 := List.mem_of_getElem? (i := 92) rfl
set_option maxRecDepth 100000 in
theorem wd_93 : (.classLink RXF 27 RXE : Cond) ∈ W0 := List.mem_of_getElem? (i := 93) rfl
set_option maxRecDepth 100000 in
theorem wd_94 : (.instantiable RXE 4 : Cond) ∈ W0 := List.mem_of_getElem? (i := 94) rfl
set_option maxRecDepth 100000 in
theorem wd_95 : (.methodLink RXF 29 yXE_init : Cond) ∈ W0 := List.mem_of_getElem? (i := 95) rfl
set_option maxRecDepth 100000 in
theorem wd_96 : (.instanceMethod yXE_init : Cond) ∈ W0 := List.mem_of_getElem? (i := 96) rfl
set_option maxRecDepth 100000 in
theorem wd_97 : (.code yXE_init cXE_init 2 none : Cond) ∈ W0 := List.mem_of_getElem? (i := 97) rfl
set_option maxRecDepth 100000 in
theorem wd_98 : (.methodLink RXE 3 objectInit : Cond) ∈ W0 := List.mem_of_getElem? (i := 98) rfl
set_option maxRecDepth 100000 in
theorem wd_99 : (.methodLink RXE 15 yXG_size : Cond) ∈ W0 := List.mem_of_getElem? (i := 99) rfl
set_option maxRecDepth 100000 in
theorem wd_100 : (.fieldLink RXE 9 "SplitForest$Elimination" "graph" "LSplitForest$Graph;" : Cond) ∈ W0 := List.mem_of_getElem? (i := 100) rfl
set_option maxRecDepth 100000 in
theorem wd_101 : (.fieldLink RXE 21 "SplitForest$Elimination" "steps" "[I" : Cond) ∈ W0 := List.mem_of_getElem? (i := 101) rfl
set_option maxRecDepth 100000 in
theorem wd_102 : (.fieldLink RXE 29 "SplitForest$Elimination" "stepCount" "I" : Cond) ∈ W0 := List.mem_of_getElem? (i := 102) rfl
set_option maxRecDepth 100000 in
theorem wd_103 : (.fieldLink RXE 41 "SplitForest$Elimination" "left" "I" : Cond) ∈ W0 := List.mem_of_getElem? (i := 103) rfl
set_option maxRecDepth 100000 in
theorem wd_104 : (.laysFinal RXE "SplitForest$Elimination" "graph" "LSplitForest$Graph;" : Cond) ∈ W0 := List.mem_of_getElem? (i := 104) rfl
set_option maxRecDepth 100000 in
theorem wd_105 : (.laysFinal RXE "SplitForest$Elimination" "steps" "[I" : Cond) ∈ W0 := List.mem_of_getElem? (i := 105) rfl
set_option maxRecDepth 100000 in
theorem wd_106 : (.lays RXE "SplitForest$Elimination" "stepCount" "I" : Cond) ∈ W0 := List.mem_of_getElem? (i := 106) rfl
set_option maxRecDepth 100000 in
theorem wd_107 : (.lays RXE "SplitForest$Elimination" "left" "I" : Cond) ∈ W0 := List.mem_of_getElem? (i := 107) rfl
set_option maxRecDepth 100000 in
theorem wd_108 : (.classLink RXF 34 RXC : Cond) ∈ W0 := List.mem_of_getElem? (i := 108) rfl
set_option maxRecDepth 100000 in
theorem wd_109 : (.instantiable RXC 2 : Cond) ∈ W0 := List.mem_of_getElem? (i := 109) rfl
set_option maxRecDepth 100000 in
theorem wd_110 : (.methodLink RXF 36 yXC_init : Cond) ∈ W0 := List.mem_of_getElem? (i := 110) rfl
set_option maxRecDepth 100000 in
theorem wd_111 : (.instanceMethod yXC_init : Cond) ∈ W0 := List.mem_of_getElem? (i := 111) rfl
set_option maxRecDepth 100000 in
theorem wd_112 : (.code yXC_init cXC_init 2 none : Cond) ∈ W0 := List.mem_of_getElem? (i := 112) rfl
set_option maxRecDepth 100000 in
theorem wd_113 : (.methodLink RXC 1 objectInit : Cond) ∈ W0 := List.mem_of_getElem? (i := 113) rfl
set_option maxRecDepth 100000 in
theorem wd_114 : (.methodLink RXC 13 yXG_size : Cond) ∈ W0 := List.mem_of_getElem? (i := 114) rfl
set_option maxRecDepth 100000 in
theorem wd_115 : (.fieldLink RXC 7 "SplitForest$Choice" "graph" "LSplitForest$Graph;" : Cond) ∈ W0 := List.mem_of_getElem? (i := 115) rfl
set_option maxRecDepth 100000 in
theorem wd_116 : (.fieldLink RXC 19 "SplitForest$Choice" "fewest" "[I" : Cond) ∈ W0 := List.mem_of_getElem? (i := 116) rfl
set_option maxRecDepth 100000 in
theorem wd_117 : (.laysFinal RXC "SplitForest$Choice" "graph" "LSplitForest$Graph;" : Cond) ∈ W0 := List.mem_of_getElem? (i := 117) rfl
set_option maxRecDepth 100000 in
theorem wd_118 : (.laysFinal RXC "SplitForest$Choice" "fewest" "[I" : Cond) ∈ W0 := List.mem_of_getElem? (i := 118) rfl
set_option maxRecDepth 100000 in
theorem wd_119 : (.fieldLink RXF 14 "SplitForest" "graph" "LSplitForest$Graph;" : Cond) ∈ W0 := List.mem_of_getElem? (i := 119) rfl
set_option maxRecDepth 100000 in
theorem wd_120 : (.fieldLink RXF 23 "SplitForest" "tree" "LSplitForest$SplitTree;" : Cond) ∈ W0 := List.mem_of_getElem? (i := 120) rfl
set_option maxRecDepth 100000 in
theorem wd_121 : (.fieldLink RXF 30 "SplitForest" "elimination" "LSplitForest$Elimination;" : Cond) ∈ W0 := List.mem_of_getElem? (i := 121) rfl
set_option maxRecDepth 100000 in
theorem wd_122 : (.fieldLink RXF 37 "SplitForest" "choice" "LSplitForest$Choice;" : Cond) ∈ W0 := List.mem_of_getElem? (i := 122) rfl
set_option maxRecDepth 100000 in
theorem wd_123 : (.laysFinal RXF "SplitForest" "graph" "LSplitForest$Graph;" : Cond) ∈ W0 := List.mem_of_getElem? (i := 123) rfl
set_option maxRecDepth 100000 in
theorem wd_124 : (.laysFinal RXF "SplitForest" "tree" "LSplitForest$SplitTree;" : Cond) ∈ W0 := List.mem_of_getElem? (i := 124) rfl
set_option maxRecDepth 100000 in
theorem wd_125 : (.laysFinal RXF "SplitForest" "elimination" "LSplitForest$Elimination;" : Cond) ∈ W0 := List.mem_of_getElem? (i := 125) rfl
set_option maxRecDepth 100000 in
theorem wd_126 : (.laysFinal RXF "SplitForest" "choice" "LSplitForest$Choice;" : Cond) ∈ W0 := List.mem_of_getElem? (i := 126) rfl
set_option maxRecDepth 100000 in
theorem wd_127 : (.methodLink RXL 21 yXF_vertices : Cond) ∈ W0 := List.mem_of_getElem? (i := 127) rfl
set_option maxRecDepth 100000 in
theorem wd_128 : (.instanceMethod yXF_vertices : Cond) ∈ W0 := List.mem_of_getElem? (i := 128) rfl
set_option maxRecDepth 100000 in
theorem wd_129 : (.selects RXF yXF_vertices yXF_vertices : Cond) ∈ W0 := List.mem_of_getElem? (i := 129) rfl
set_option maxRecDepth 100000 in
theorem wd_130 : (.code yXF_vertices cXF_vertices 1 (some .int) : Cond) ∈ W0 := List.mem_of_getElem? (i := 130) rfl
set_option maxRecDepth 100000 in
theorem wd_131 : (.methodLink RXF 41 yXG_size : Cond) ∈ W0 := List.mem_of_getElem? (i := 131) rfl
set_option maxRecDepth 100000 in
theorem wd_132 : (.methodLink RXL 26 yXF_flip : Cond) ∈ W0 := List.mem_of_getElem? (i := 132) rfl
set_option maxRecDepth 100000 in
theorem wd_133 : (.instanceMethod yXF_flip : Cond) ∈ W0 := List.mem_of_getElem? (i := 133) rfl
set_option maxRecDepth 100000 in
theorem wd_134 : (.selects RXF yXF_flip yXF_flip : Cond) ∈ W0 := List.mem_of_getElem? (i := 134) rfl
set_option maxRecDepth 100000 in
theorem wd_135 : (.code yXF_flip cXF_flip 3 (some .boolean) : Cond) ∈ W0 := List.mem_of_getElem? (i := 135) rfl
set_option maxRecDepth 100000 in
theorem wd_136 : (.methodLink RXF 45 yXG_has : Cond) ∈ W0 := List.mem_of_getElem? (i := 136) rfl
set_option maxRecDepth 100000 in
theorem wd_137 : (.instanceMethod yXG_has : Cond) ∈ W0 := List.mem_of_getElem? (i := 137) rfl
set_option maxRecDepth 100000 in
theorem wd_138 : (.selects RXG yXG_has yXG_has : Cond) ∈ W0 := List.mem_of_getElem? (i := 138) rfl
set_option maxRecDepth 100000 in
theorem wd_139 : (.code yXG_has cXG_has 2 (some .boolean) : Cond) ∈ W0 := List.mem_of_getElem? (i := 139) rfl
set_option maxRecDepth 100000 in
theorem wd_140 : (.methodLink RXF 49 yXG_toggle : Cond) ∈ W0 := List.mem_of_getElem? (i := 140) rfl
set_option maxRecDepth 100000 in
theorem wd_141 : (.instanceMethod yXG_toggle : Cond) ∈ W0 := List.mem_of_getElem? (i := 141) rfl
set_option maxRecDepth 100000 in
theorem wd_142 : (.selects RXG yXG_toggle yXG_toggle : Cond) ∈ W0 := List.mem_of_getElem? (i := 142) rfl
set_option maxRecDepth 100000 in
theorem wd_143 : (.code yXG_toggle cXG_toggle 3 none : Cond) ∈ W0 := List.mem_of_getElem? (i := 143) rfl
set_option maxRecDepth 100000 in
theorem wd_144 : (.methodLink RXF 53 yXT_forget : Cond) ∈ W0 := List.mem_of_getElem? (i := 144) rfl
set_option maxRecDepth 100000 in
theorem wd_145 : (.instanceMethod yXT_forget : Cond) ∈ W0 := List.mem_of_getElem? (i := 145) rfl
set_option maxRecDepth 100000 in
theorem wd_146 : (.selects RXT yXT_forget yXT_forget : Cond) ∈ W0 := List.mem_of_getElem? (i := 146) rfl
set_option maxRecDepth 100000 in
theorem wd_147 : (.code yXT_forget cXT_forget 1 none : Cond) ∈ W0 := List.mem_of_getElem? (i := 147) rfl
set_option maxRecDepth 100000 in
theorem wd_148 : (.methodLink RXF 56 yXG_edge : Cond) ∈ W0 := List.mem_of_getElem? (i := 148) rfl
set_option maxRecDepth 100000 in
theorem wd_149 : (.instanceMethod yXG_edge : Cond) ∈ W0 := List.mem_of_getElem? (i := 149) rfl
set_option maxRecDepth 100000 in
theorem wd_150 : (.selects RXG yXG_edge yXG_edge : Cond) ∈ W0 := List.mem_of_getElem? (i := 150) rfl
set_option maxRecDepth 100000 in
theorem wd_151 : (.code yXG_edge cXG_edge 3 (some .boolean) : Cond) ∈ W0 := List.mem_of_getElem? (i := 151) rfl
set_option maxRecDepth 100000 in
theorem wd_152 : (.static yXF_contains : Cond) ∈ W0 := List.mem_of_getElem? (i := 152) rfl
set_option maxRecDepth 100000 in
theorem wd_153 : (.code yXF_contains cXF_contains 2 (some .boolean) : Cond) ∈ W0 := List.mem_of_getElem? (i := 153) rfl
set_option maxRecDepth 100000 in
theorem wd_154 : (.methodLink RXL 31 yXF_neighbours : Cond) ∈ W0 := List.mem_of_getElem? (i := 154) rfl
set_option maxRecDepth 100000 in
theorem wd_155 : (.instanceMethod yXF_neighbours : Cond) ∈ W0 := List.mem_of_getElem? (i := 155) rfl
set_option maxRecDepth 100000 in
theorem wd_156 : (.selects RXF yXF_neighbours yXF_neighbours : Cond) ∈ W0 := List.mem_of_getElem? (i := 156) rfl
set_option maxRecDepth 100000 in
theorem wd_157 : (.code yXF_neighbours cXF_neighbours 3 (some .boolean) : Cond) ∈ W0 := List.mem_of_getElem? (i := 157) rfl
set_option maxRecDepth 100000 in
theorem wd_158 : (.methodLink RXL 35 yXF_component : Cond) ∈ W0 := List.mem_of_getElem? (i := 158) rfl
set_option maxRecDepth 100000 in
theorem wd_159 : (.instanceMethod yXF_component : Cond) ∈ W0 := List.mem_of_getElem? (i := 159) rfl
set_option maxRecDepth 100000 in
theorem wd_160 : (.selects RXF yXF_component yXF_component : Cond) ∈ W0 := List.mem_of_getElem? (i := 160) rfl
set_option maxRecDepth 100000 in
theorem wd_161 : (.code yXF_component cXF_component 2 (some .int) : Cond) ∈ W0 := List.mem_of_getElem? (i := 161) rfl
set_option maxRecDepth 100000 in
theorem wd_162 : (.methodLink RXF 60 yXF_componentOf : Cond) ∈ W0 := List.mem_of_getElem? (i := 162) rfl
set_option maxRecDepth 100000 in
theorem wd_163 : (.instanceMethod yXF_componentOf : Cond) ∈ W0 := List.mem_of_getElem? (i := 163) rfl
set_option maxRecDepth 100000 in
theorem wd_164 : (.code yXF_componentOf cXF_componentOf 2 (some .int) : Cond) ∈ W0 := List.mem_of_getElem? (i := 164) rfl
set_option maxRecDepth 100000 in
theorem wd_165 : (.methodLink RXF 128 yXG_all : Cond) ∈ W0 := List.mem_of_getElem? (i := 165) rfl
set_option maxRecDepth 100000 in
theorem wd_166 : (.instanceMethod yXG_all : Cond) ∈ W0 := List.mem_of_getElem? (i := 166) rfl
set_option maxRecDepth 100000 in
theorem wd_167 : (.selects RXG yXG_all yXG_all : Cond) ∈ W0 := List.mem_of_getElem? (i := 167) rfl
set_option maxRecDepth 100000 in
theorem wd_168 : (.code yXG_all cXG_all 1 (some .int) : Cond) ∈ W0 := List.mem_of_getElem? (i := 168) rfl
set_option maxRecDepth 100000 in
theorem wd_169 : (.methodLink RXF 131 yXG_reached : Cond) ∈ W0 := List.mem_of_getElem? (i := 169) rfl
set_option maxRecDepth 100000 in
theorem wd_170 : (.instanceMethod yXG_reached : Cond) ∈ W0 := List.mem_of_getElem? (i := 170) rfl
set_option maxRecDepth 100000 in
theorem wd_171 : (.selects RXG yXG_reached yXG_reached : Cond) ∈ W0 := List.mem_of_getElem? (i := 171) rfl
set_option maxRecDepth 100000 in
theorem wd_172 : (.code yXG_reached cXG_reached 6 (some .int) : Cond) ∈ W0 := List.mem_of_getElem? (i := 172) rfl
set_option maxRecDepth 100000 in
theorem wd_173 : (.methodLink RXG 23 yXG_nearToAny : Cond) ∈ W0 := List.mem_of_getElem? (i := 173) rfl
set_option maxRecDepth 100000 in
theorem wd_174 : (.instanceMethod yXG_nearToAny : Cond) ∈ W0 := List.mem_of_getElem? (i := 174) rfl
set_option maxRecDepth 100000 in
theorem wd_175 : (.code yXG_nearToAny cXG_nearToAny 5 (some .int) : Cond) ∈ W0 := List.mem_of_getElem? (i := 175) rfl
set_option maxRecDepth 100000 in
theorem wd_176 : (.methodLink RXL 40 yXF_splits : Cond) ∈ W0 := List.mem_of_getElem? (i := 176) rfl
set_option maxRecDepth 100000 in
theorem wd_177 : (.instanceMethod yXF_splits : Cond) ∈ W0 := List.mem_of_getElem? (i := 177) rfl
set_option maxRecDepth 100000 in
theorem wd_178 : (.selects RXF yXF_splits yXF_splits : Cond) ∈ W0 := List.mem_of_getElem? (i := 178) rfl
set_option maxRecDepth 100000 in
theorem wd_179 : (.code yXF_splits cXF_splits 2 (some .int) : Cond) ∈ W0 := List.mem_of_getElem? (i := 179) rfl
set_option maxRecDepth 100000 in
theorem wd_180 : (.methodLink RXF 64 yXF_treeOf : Cond) ∈ W0 := List.mem_of_getElem? (i := 180) rfl
set_option maxRecDepth 100000 in
theorem wd_181 : (.instanceMethod yXF_treeOf : Cond) ∈ W0 := List.mem_of_getElem? (i := 181) rfl
set_option maxRecDepth 100000 in
theorem wd_182 : (.code yXF_treeOf cXF_treeOf 2 (some (.object "SplitForest$SplitTree")) : Cond) ∈ W0 := List.mem_of_getElem? (i := 182) rfl
set_option maxRecDepth 100000 in
theorem wd_183 : (.methodLink RXF 134 yXT_growFor : Cond) ∈ W0 := List.mem_of_getElem? (i := 183) rfl
set_option maxRecDepth 100000 in
theorem wd_184 : (.instanceMethod yXT_growFor : Cond) ∈ W0 := List.mem_of_getElem? (i := 184) rfl
set_option maxRecDepth 100000 in
theorem wd_185 : (.selects RXT yXT_growFor yXT_growFor : Cond) ∈ W0 := List.mem_of_getElem? (i := 185) rfl
set_option maxRecDepth 100000 in
theorem wd_186 : (.code yXT_growFor cXT_growFor 2 none : Cond) ∈ W0 := List.mem_of_getElem? (i := 186) rfl
set_option maxRecDepth 100000 in
theorem wd_187 : (.methodLink RXT 38 yXT_findSplits : Cond) ∈ W0 := List.mem_of_getElem? (i := 187) rfl
set_option maxRecDepth 100000 in
theorem wd_188 : (.instanceMethod yXT_findSplits : Cond) ∈ W0 := List.mem_of_getElem? (i := 188) rfl
set_option maxRecDepth 100000 in
theorem wd_189 : (.code yXT_findSplits cXT_findSplits 3 none : Cond) ∈ W0 := List.mem_of_getElem? (i := 189) rfl
set_option maxRecDepth 100000 in
theorem wd_190 : (.methodLink RXT 78 yXT_isSplit : Cond) ∈ W0 := List.mem_of_getElem? (i := 190) rfl
set_option maxRecDepth 100000 in
theorem wd_191 : (.instanceMethod yXT_isSplit : Cond) ∈ W0 := List.mem_of_getElem? (i := 191) rfl
set_option maxRecDepth 100000 in
theorem wd_192 : (.code yXT_isSplit cXT_isSplit 6 (some .boolean) : Cond) ∈ W0 := List.mem_of_getElem? (i := 192) rfl
set_option maxRecDepth 100000 in
theorem wd_193 : (.methodLink RXT 81 yXJ_bitCount : Cond) ∈ W0 := List.mem_of_getElem? (i := 193) rfl
set_option maxRecDepth 100000 in
theorem wd_194 : (.static yXJ_bitCount : Cond) ∈ W0 := List.mem_of_getElem? (i := 194) rfl
set_option maxRecDepth 100000 in
theorem wd_195 : (.code yXJ_bitCount cXJ_bitCount 1 (some .int) : Cond) ∈ W0 := List.mem_of_getElem? (i := 195) rfl
set_option maxRecDepth 100000 in
theorem wd_196 : (.constant RXJ 265 1431655765 : Cond) ∈ W0 := List.mem_of_getElem? (i := 196) rfl
set_option maxRecDepth 100000 in
theorem wd_197 : (.constant RXJ 266 858993459 : Cond) ∈ W0 := List.mem_of_getElem? (i := 197) rfl
set_option maxRecDepth 100000 in
theorem wd_198 : (.constant RXJ 267 252645135 : Cond) ∈ W0 := List.mem_of_getElem? (i := 198) rfl
set_option maxRecDepth 100000 in
theorem wd_199 : (.methodLink RXT 89 yXG_nearInside : Cond) ∈ W0 := List.mem_of_getElem? (i := 199) rfl
set_option maxRecDepth 100000 in
theorem wd_200 : (.instanceMethod yXG_nearInside : Cond) ∈ W0 := List.mem_of_getElem? (i := 200) rfl
set_option maxRecDepth 100000 in
theorem wd_201 : (.selects RXG yXG_nearInside yXG_nearInside : Cond) ∈ W0 := List.mem_of_getElem? (i := 201) rfl
set_option maxRecDepth 100000 in
theorem wd_202 : (.code yXG_nearInside cXG_nearInside 3 (some .int) : Cond) ∈ W0 := List.mem_of_getElem? (i := 202) rfl
set_option maxRecDepth 100000 in
theorem wd_203 : (.methodLink RXT 41 yXT_findNodes : Cond) ∈ W0 := List.mem_of_getElem? (i := 203) rfl
set_option maxRecDepth 100000 in
theorem wd_204 : (.instanceMethod yXT_findNodes : Cond) ∈ W0 := List.mem_of_getElem? (i := 204) rfl
set_option maxRecDepth 100000 in
theorem wd_205 : (.code yXT_findNodes cXT_findNodes 2 none : Cond) ∈ W0 := List.mem_of_getElem? (i := 205) rfl
set_option maxRecDepth 100000 in
theorem wd_206 : (.methodLink RXT 92 yXT_isStrong : Cond) ∈ W0 := List.mem_of_getElem? (i := 206) rfl
set_option maxRecDepth 100000 in
theorem wd_207 : (.instanceMethod yXT_isStrong : Cond) ∈ W0 := List.mem_of_getElem? (i := 207) rfl
set_option maxRecDepth 100000 in
theorem wd_208 : (.code yXT_isStrong cXT_isStrong 4 (some .boolean) : Cond) ∈ W0 := List.mem_of_getElem? (i := 208) rfl
set_option maxRecDepth 100000 in
theorem wd_209 : (.methodLink RXF 68 yXT_splitCount : Cond) ∈ W0 := List.mem_of_getElem? (i := 209) rfl
set_option maxRecDepth 100000 in
theorem wd_210 : (.instanceMethod yXT_splitCount : Cond) ∈ W0 := List.mem_of_getElem? (i := 210) rfl
set_option maxRecDepth 100000 in
theorem wd_211 : (.selects RXT yXT_splitCount yXT_splitCount : Cond) ∈ W0 := List.mem_of_getElem? (i := 211) rfl
set_option maxRecDepth 100000 in
theorem wd_212 : (.code yXT_splitCount cXT_splitCount 1 (some .int) : Cond) ∈ W0 := List.mem_of_getElem? (i := 212) rfl
set_option maxRecDepth 100000 in
theorem wd_213 : (.methodLink RXL 44 yXF_strong : Cond) ∈ W0 := List.mem_of_getElem? (i := 213) rfl
set_option maxRecDepth 100000 in
theorem wd_214 : (.instanceMethod yXF_strong : Cond) ∈ W0 := List.mem_of_getElem? (i := 214) rfl
set_option maxRecDepth 100000 in
theorem wd_215 : (.selects RXF yXF_strong yXF_strong : Cond) ∈ W0 := List.mem_of_getElem? (i := 215) rfl
set_option maxRecDepth 100000 in
theorem wd_216 : (.code yXF_strong cXF_strong 2 (some .int) : Cond) ∈ W0 := List.mem_of_getElem? (i := 216) rfl
set_option maxRecDepth 100000 in
theorem wd_217 : (.methodLink RXF 71 yXT_nodeCount : Cond) ∈ W0 := List.mem_of_getElem? (i := 217) rfl
set_option maxRecDepth 100000 in
theorem wd_218 : (.instanceMethod yXT_nodeCount : Cond) ∈ W0 := List.mem_of_getElem? (i := 218) rfl
set_option maxRecDepth 100000 in
theorem wd_219 : (.selects RXT yXT_nodeCount yXT_nodeCount : Cond) ∈ W0 := List.mem_of_getElem? (i := 219) rfl
set_option maxRecDepth 100000 in
theorem wd_220 : (.code yXT_nodeCount cXT_nodeCount 1 (some .int) : Cond) ∈ W0 := List.mem_of_getElem? (i := 220) rfl
set_option maxRecDepth 100000 in
theorem wd_221 : (.methodLink RXL 48 yXF_set : Cond) ∈ W0 := List.mem_of_getElem? (i := 221) rfl
set_option maxRecDepth 100000 in
theorem wd_222 : (.instanceMethod yXF_set : Cond) ∈ W0 := List.mem_of_getElem? (i := 222) rfl
set_option maxRecDepth 100000 in
theorem wd_223 : (.selects RXF yXF_set yXF_set : Cond) ∈ W0 := List.mem_of_getElem? (i := 223) rfl
set_option maxRecDepth 100000 in
theorem wd_224 : (.code yXF_set cXF_set 3 (some .int) : Cond) ∈ W0 := List.mem_of_getElem? (i := 224) rfl
set_option maxRecDepth 100000 in
theorem wd_225 : (.methodLink RXF 74 yXF_hasNode : Cond) ∈ W0 := List.mem_of_getElem? (i := 225) rfl
set_option maxRecDepth 100000 in
theorem wd_226 : (.instanceMethod yXF_hasNode : Cond) ∈ W0 := List.mem_of_getElem? (i := 226) rfl
set_option maxRecDepth 100000 in
theorem wd_227 : (.code yXF_hasNode cXF_hasNode 3 (some .boolean) : Cond) ∈ W0 := List.mem_of_getElem? (i := 227) rfl
set_option maxRecDepth 100000 in
theorem wd_228 : (.methodLink RXF 77 yXT_nodeSet : Cond) ∈ W0 := List.mem_of_getElem? (i := 228) rfl
set_option maxRecDepth 100000 in
theorem wd_229 : (.instanceMethod yXT_nodeSet : Cond) ∈ W0 := List.mem_of_getElem? (i := 229) rfl
set_option maxRecDepth 100000 in
theorem wd_230 : (.selects RXT yXT_nodeSet yXT_nodeSet : Cond) ∈ W0 := List.mem_of_getElem? (i := 230) rfl
set_option maxRecDepth 100000 in
theorem wd_231 : (.code yXT_nodeSet cXT_nodeSet 2 (some .int) : Cond) ∈ W0 := List.mem_of_getElem? (i := 231) rfl
set_option maxRecDepth 100000 in
theorem wd_232 : (.methodLink RXL 53 yXF_kind : Cond) ∈ W0 := List.mem_of_getElem? (i := 232) rfl
set_option maxRecDepth 100000 in
theorem wd_233 : (.instanceMethod yXF_kind : Cond) ∈ W0 := List.mem_of_getElem? (i := 233) rfl
set_option maxRecDepth 100000 in
theorem wd_234 : (.selects RXF yXF_kind yXF_kind : Cond) ∈ W0 := List.mem_of_getElem? (i := 234) rfl
set_option maxRecDepth 100000 in
theorem wd_235 : (.code yXF_kind cXF_kind 3 (some .int) : Cond) ∈ W0 := List.mem_of_getElem? (i := 235) rfl
set_option maxRecDepth 100000 in
theorem wd_236 : (.methodLink RXF 80 yXT_nodeKind : Cond) ∈ W0 := List.mem_of_getElem? (i := 236) rfl
set_option maxRecDepth 100000 in
theorem wd_237 : (.instanceMethod yXT_nodeKind : Cond) ∈ W0 := List.mem_of_getElem? (i := 237) rfl
set_option maxRecDepth 100000 in
theorem wd_238 : (.selects RXT yXT_nodeKind yXT_nodeKind : Cond) ∈ W0 := List.mem_of_getElem? (i := 238) rfl
set_option maxRecDepth 100000 in
theorem wd_239 : (.code yXT_nodeKind cXT_nodeKind 2 (some .int) : Cond) ∈ W0 := List.mem_of_getElem? (i := 239) rfl
set_option maxRecDepth 100000 in
theorem wd_240 : (.methodLink RXT 57 yXT_findJoins : Cond) ∈ W0 := List.mem_of_getElem? (i := 240) rfl
set_option maxRecDepth 100000 in
theorem wd_241 : (.instanceMethod yXT_findJoins : Cond) ∈ W0 := List.mem_of_getElem? (i := 241) rfl
set_option maxRecDepth 100000 in
theorem wd_242 : (.code yXT_findJoins cXT_findJoins 4 none : Cond) ∈ W0 := List.mem_of_getElem? (i := 242) rfl
set_option maxRecDepth 100000 in
theorem wd_243 : (.methodLink RXT 50 yXT_findParts : Cond) ∈ W0 := List.mem_of_getElem? (i := 243) rfl
set_option maxRecDepth 100000 in
theorem wd_244 : (.instanceMethod yXT_findParts : Cond) ∈ W0 := List.mem_of_getElem? (i := 244) rfl
set_option maxRecDepth 100000 in
theorem wd_245 : (.code yXT_findParts cXT_findParts 5 none : Cond) ∈ W0 := List.mem_of_getElem? (i := 245) rfl
set_option maxRecDepth 100000 in
theorem wd_246 : (.methodLink RXT 70 yXT_partWith : Cond) ∈ W0 := List.mem_of_getElem? (i := 246) rfl
set_option maxRecDepth 100000 in
theorem wd_247 : (.instanceMethod yXT_partWith : Cond) ∈ W0 := List.mem_of_getElem? (i := 247) rfl
set_option maxRecDepth 100000 in
theorem wd_248 : (.code yXT_partWith cXT_partWith 7 (some .int) : Cond) ∈ W0 := List.mem_of_getElem? (i := 248) rfl
set_option maxRecDepth 100000 in
theorem wd_249 : (.methodLink RXT 96 yXT_addPart : Cond) ∈ W0 := List.mem_of_getElem? (i := 249) rfl
set_option maxRecDepth 100000 in
theorem wd_250 : (.instanceMethod yXT_addPart : Cond) ∈ W0 := List.mem_of_getElem? (i := 250) rfl
set_option maxRecDepth 100000 in
theorem wd_251 : (.code yXT_addPart cXT_addPart 3 none : Cond) ∈ W0 := List.mem_of_getElem? (i := 251) rfl
set_option maxRecDepth 100000 in
theorem wd_252 : (.methodLink RXT 74 yXG_joined : Cond) ∈ W0 := List.mem_of_getElem? (i := 252) rfl
set_option maxRecDepth 100000 in
theorem wd_253 : (.instanceMethod yXG_joined : Cond) ∈ W0 := List.mem_of_getElem? (i := 253) rfl
set_option maxRecDepth 100000 in
theorem wd_254 : (.selects RXG yXG_joined yXG_joined : Cond) ∈ W0 := List.mem_of_getElem? (i := 254) rfl
set_option maxRecDepth 100000 in
theorem wd_255 : (.code yXG_joined cXG_joined 3 (some .boolean) : Cond) ∈ W0 := List.mem_of_getElem? (i := 255) rfl
set_option maxRecDepth 100000 in
theorem wd_256 : (.methodLink RXT 63 yXT_centreIndex : Cond) ∈ W0 := List.mem_of_getElem? (i := 256) rfl
set_option maxRecDepth 100000 in
theorem wd_257 : (.instanceMethod yXT_centreIndex : Cond) ∈ W0 := List.mem_of_getElem? (i := 257) rfl
set_option maxRecDepth 100000 in
theorem wd_258 : (.code yXT_centreIndex cXT_centreIndex 2 (some .int) : Cond) ∈ W0 := List.mem_of_getElem? (i := 258) rfl
set_option maxRecDepth 100000 in
theorem wd_259 : (.methodLink RXL 57 yXF_parts : Cond) ∈ W0 := List.mem_of_getElem? (i := 259) rfl
set_option maxRecDepth 100000 in
theorem wd_260 : (.instanceMethod yXF_parts : Cond) ∈ W0 := List.mem_of_getElem? (i := 260) rfl
set_option maxRecDepth 100000 in
theorem wd_261 : (.selects RXF yXF_parts yXF_parts : Cond) ∈ W0 := List.mem_of_getElem? (i := 261) rfl
set_option maxRecDepth 100000 in
theorem wd_262 : (.code yXF_parts cXF_parts 3 (some .int) : Cond) ∈ W0 := List.mem_of_getElem? (i := 262) rfl
set_option maxRecDepth 100000 in
theorem wd_263 : (.methodLink RXF 83 yXT_partCount : Cond) ∈ W0 := List.mem_of_getElem? (i := 263) rfl
set_option maxRecDepth 100000 in
theorem wd_264 : (.instanceMethod yXT_partCount : Cond) ∈ W0 := List.mem_of_getElem? (i := 264) rfl
set_option maxRecDepth 100000 in
theorem wd_265 : (.selects RXT yXT_partCount yXT_partCount : Cond) ∈ W0 := List.mem_of_getElem? (i := 265) rfl
set_option maxRecDepth 100000 in
theorem wd_266 : (.code yXT_partCount cXT_partCount 2 (some .int) : Cond) ∈ W0 := List.mem_of_getElem? (i := 266) rfl
set_option maxRecDepth 100000 in
theorem wd_267 : (.methodLink RXL 61 yXF_part : Cond) ∈ W0 := List.mem_of_getElem? (i := 267) rfl
set_option maxRecDepth 100000 in
theorem wd_268 : (.instanceMethod yXF_part : Cond) ∈ W0 := List.mem_of_getElem? (i := 268) rfl
set_option maxRecDepth 100000 in
theorem wd_269 : (.selects RXF yXF_part yXF_part : Cond) ∈ W0 := List.mem_of_getElem? (i := 269) rfl
set_option maxRecDepth 100000 in
theorem wd_270 : (.code yXF_part cXF_part 4 (some .int) : Cond) ∈ W0 := List.mem_of_getElem? (i := 270) rfl
set_option maxRecDepth 100000 in
theorem wd_271 : (.methodLink RXF 86 yXT_partSet : Cond) ∈ W0 := List.mem_of_getElem? (i := 271) rfl
set_option maxRecDepth 100000 in
theorem wd_272 : (.instanceMethod yXT_partSet : Cond) ∈ W0 := List.mem_of_getElem? (i := 272) rfl
set_option maxRecDepth 100000 in
theorem wd_273 : (.selects RXT yXT_partSet yXT_partSet : Cond) ∈ W0 := List.mem_of_getElem? (i := 273) rfl
set_option maxRecDepth 100000 in
theorem wd_274 : (.code yXT_partSet cXT_partSet 3 (some .int) : Cond) ∈ W0 := List.mem_of_getElem? (i := 274) rfl
set_option maxRecDepth 100000 in
theorem wd_275 : (.methodLink RXL 66 yXF_centre : Cond) ∈ W0 := List.mem_of_getElem? (i := 275) rfl
set_option maxRecDepth 100000 in
theorem wd_276 : (.instanceMethod yXF_centre : Cond) ∈ W0 := List.mem_of_getElem? (i := 276) rfl
set_option maxRecDepth 100000 in
theorem wd_277 : (.selects RXF yXF_centre yXF_centre : Cond) ∈ W0 := List.mem_of_getElem? (i := 277) rfl
set_option maxRecDepth 100000 in
theorem wd_278 : (.code yXF_centre cXF_centre 3 (some .int) : Cond) ∈ W0 := List.mem_of_getElem? (i := 278) rfl
set_option maxRecDepth 100000 in
theorem wd_279 : (.methodLink RXF 90 yXT_centreSet : Cond) ∈ W0 := List.mem_of_getElem? (i := 279) rfl
set_option maxRecDepth 100000 in
theorem wd_280 : (.instanceMethod yXT_centreSet : Cond) ∈ W0 := List.mem_of_getElem? (i := 280) rfl
set_option maxRecDepth 100000 in
theorem wd_281 : (.selects RXT yXT_centreSet yXT_centreSet : Cond) ∈ W0 := List.mem_of_getElem? (i := 281) rfl
set_option maxRecDepth 100000 in
theorem wd_282 : (.code yXT_centreSet cXT_centreSet 2 (some .int) : Cond) ∈ W0 := List.mem_of_getElem? (i := 282) rfl
set_option maxRecDepth 100000 in
theorem wd_283 : (.methodLink RXT 66 yXT_nodeKind : Cond) ∈ W0 := List.mem_of_getElem? (i := 283) rfl
set_option maxRecDepth 100000 in
theorem wd_284 : (.methodLink RXL 70 yXF_linked : Cond) ∈ W0 := List.mem_of_getElem? (i := 284) rfl
set_option maxRecDepth 100000 in
theorem wd_285 : (.instanceMethod yXF_linked : Cond) ∈ W0 := List.mem_of_getElem? (i := 285) rfl
set_option maxRecDepth 100000 in
theorem wd_286 : (.selects RXF yXF_linked yXF_linked : Cond) ∈ W0 := List.mem_of_getElem? (i := 286) rfl
set_option maxRecDepth 100000 in
theorem wd_287 : (.code yXF_linked cXF_linked 3 (some .boolean) : Cond) ∈ W0 := List.mem_of_getElem? (i := 287) rfl
set_option maxRecDepth 100000 in
theorem wd_288 : (.methodLink RXF 93 yXF_contains : Cond) ∈ W0 := List.mem_of_getElem? (i := 288) rfl
set_option maxRecDepth 100000 in
theorem wd_289 : (.methodLink RXF 96 yXT_links : Cond) ∈ W0 := List.mem_of_getElem? (i := 289) rfl
set_option maxRecDepth 100000 in
theorem wd_290 : (.instanceMethod yXT_links : Cond) ∈ W0 := List.mem_of_getElem? (i := 290) rfl
set_option maxRecDepth 100000 in
theorem wd_291 : (.selects RXT yXT_links yXT_links : Cond) ∈ W0 := List.mem_of_getElem? (i := 291) rfl
set_option maxRecDepth 100000 in
theorem wd_292 : (.code yXT_links cXT_links 6 (some .boolean) : Cond) ∈ W0 := List.mem_of_getElem? (i := 292) rfl
set_option maxRecDepth 100000 in
theorem wd_293 : (.methodLink RXL 74 yXF_hereditary : Cond) ∈ W0 := List.mem_of_getElem? (i := 293) rfl
set_option maxRecDepth 100000 in
theorem wd_294 : (.instanceMethod yXF_hereditary : Cond) ∈ W0 := List.mem_of_getElem? (i := 294) rfl
set_option maxRecDepth 100000 in
theorem wd_295 : (.selects RXF yXF_hereditary yXF_hereditary : Cond) ∈ W0 := List.mem_of_getElem? (i := 295) rfl
set_option maxRecDepth 100000 in
theorem wd_296 : (.code yXF_hereditary cXF_hereditary 2 (some .boolean) : Cond) ∈ W0 := List.mem_of_getElem? (i := 296) rfl
set_option maxRecDepth 100000 in
theorem wd_297 : (.methodLink RXF 99 yXE_clears : Cond) ∈ W0 := List.mem_of_getElem? (i := 297) rfl
set_option maxRecDepth 100000 in
theorem wd_298 : (.instanceMethod yXE_clears : Cond) ∈ W0 := List.mem_of_getElem? (i := 298) rfl
set_option maxRecDepth 100000 in
theorem wd_299 : (.selects RXE yXE_clears yXE_clears : Cond) ∈ W0 := List.mem_of_getElem? (i := 299) rfl
set_option maxRecDepth 100000 in
theorem wd_300 : (.code yXE_clears cXE_clears 5 (some .boolean) : Cond) ∈ W0 := List.mem_of_getElem? (i := 300) rfl
set_option maxRecDepth 100000 in
theorem wd_301 : (.methodLink RXE 37 yXG_reached : Cond) ∈ W0 := List.mem_of_getElem? (i := 301) rfl
set_option maxRecDepth 100000 in
theorem wd_302 : (.methodLink RXE 25 yXE_run : Cond) ∈ W0 := List.mem_of_getElem? (i := 302) rfl
set_option maxRecDepth 100000 in
theorem wd_303 : (.instanceMethod yXE_run : Cond) ∈ W0 := List.mem_of_getElem? (i := 303) rfl
set_option maxRecDepth 100000 in
theorem wd_304 : (.code yXE_run cXE_run 3 none : Cond) ∈ W0 := List.mem_of_getElem? (i := 304) rfl
set_option maxRecDepth 100000 in
theorem wd_305 : (.methodLink RXE 54 yXE_nextStep : Cond) ∈ W0 := List.mem_of_getElem? (i := 305) rfl
set_option maxRecDepth 100000 in
theorem wd_306 : (.instanceMethod yXE_nextStep : Cond) ∈ W0 := List.mem_of_getElem? (i := 306) rfl
set_option maxRecDepth 100000 in
theorem wd_307 : (.code yXE_nextStep cXE_nextStep 3 (some .int) : Cond) ∈ W0 := List.mem_of_getElem? (i := 307) rfl
set_option maxRecDepth 100000 in
theorem wd_308 : (.methodLink RXE 57 yXE_stepAt : Cond) ∈ W0 := List.mem_of_getElem? (i := 308) rfl
set_option maxRecDepth 100000 in
theorem wd_309 : (.instanceMethod yXE_stepAt : Cond) ∈ W0 := List.mem_of_getElem? (i := 309) rfl
set_option maxRecDepth 100000 in
theorem wd_310 : (.code yXE_stepAt cXE_stepAt 6 (some .int) : Cond) ∈ W0 := List.mem_of_getElem? (i := 310) rfl
set_option maxRecDepth 100000 in
theorem wd_311 : (.methodLink RXE 60 yXG_nearInside : Cond) ∈ W0 := List.mem_of_getElem? (i := 311) rfl
set_option maxRecDepth 100000 in
theorem wd_312 : (.methodLink RXE 44 yXJ_bitCount : Cond) ∈ W0 := List.mem_of_getElem? (i := 312) rfl
set_option maxRecDepth 100000 in
theorem wd_313 : (.methodLink RXE 63 yXG_areTwins : Cond) ∈ W0 := List.mem_of_getElem? (i := 313) rfl
set_option maxRecDepth 100000 in
theorem wd_314 : (.instanceMethod yXG_areTwins : Cond) ∈ W0 := List.mem_of_getElem? (i := 314) rfl
set_option maxRecDepth 100000 in
theorem wd_315 : (.selects RXG yXG_areTwins yXG_areTwins : Cond) ∈ W0 := List.mem_of_getElem? (i := 315) rfl
set_option maxRecDepth 100000 in
theorem wd_316 : (.code yXG_areTwins cXG_areTwins 5 (some .boolean) : Cond) ∈ W0 := List.mem_of_getElem? (i := 316) rfl
set_option maxRecDepth 100000 in
theorem wd_317 : (.methodLink RXL 79 yXF_step : Cond) ∈ W0 := List.mem_of_getElem? (i := 317) rfl
set_option maxRecDepth 100000 in
theorem wd_318 : (.instanceMethod yXF_step : Cond) ∈ W0 := List.mem_of_getElem? (i := 318) rfl
set_option maxRecDepth 100000 in
theorem wd_319 : (.selects RXF yXF_step yXF_step : Cond) ∈ W0 := List.mem_of_getElem? (i := 319) rfl
set_option maxRecDepth 100000 in
theorem wd_320 : (.code yXF_step cXF_step 3 (some .int) : Cond) ∈ W0 := List.mem_of_getElem? (i := 320) rfl
set_option maxRecDepth 100000 in
theorem wd_321 : (.methodLink RXF 102 yXE_stepOf : Cond) ∈ W0 := List.mem_of_getElem? (i := 321) rfl
set_option maxRecDepth 100000 in
theorem wd_322 : (.instanceMethod yXE_stepOf : Cond) ∈ W0 := List.mem_of_getElem? (i := 322) rfl
set_option maxRecDepth 100000 in
theorem wd_323 : (.selects RXE yXE_stepOf yXE_stepOf : Cond) ∈ W0 := List.mem_of_getElem? (i := 323) rfl
set_option maxRecDepth 100000 in
theorem wd_324 : (.code yXE_stepOf cXE_stepOf 3 (some .int) : Cond) ∈ W0 := List.mem_of_getElem? (i := 324) rfl
set_option maxRecDepth 100000 in
theorem wd_325 : (.methodLink RXL 83 yXF_obstruction : Cond) ∈ W0 := List.mem_of_getElem? (i := 325) rfl
set_option maxRecDepth 100000 in
theorem wd_326 : (.instanceMethod yXF_obstruction : Cond) ∈ W0 := List.mem_of_getElem? (i := 326) rfl
set_option maxRecDepth 100000 in
theorem wd_327 : (.selects RXF yXF_obstruction yXF_obstruction : Cond) ∈ W0 := List.mem_of_getElem? (i := 327) rfl
set_option maxRecDepth 100000 in
theorem wd_328 : (.code yXF_obstruction cXF_obstruction 2 (some .int) : Cond) ∈ W0 := List.mem_of_getElem? (i := 328) rfl
set_option maxRecDepth 100000 in
theorem wd_329 : (.methodLink RXF 105 yXE_obstructionIn : Cond) ∈ W0 := List.mem_of_getElem? (i := 329) rfl
set_option maxRecDepth 100000 in
theorem wd_330 : (.instanceMethod yXE_obstructionIn : Cond) ∈ W0 := List.mem_of_getElem? (i := 330) rfl
set_option maxRecDepth 100000 in
theorem wd_331 : (.selects RXE yXE_obstructionIn yXE_obstructionIn : Cond) ∈ W0 := List.mem_of_getElem? (i := 331) rfl
set_option maxRecDepth 100000 in
theorem wd_332 : (.code yXE_obstructionIn cXE_obstructionIn 5 (some .int) : Cond) ∈ W0 := List.mem_of_getElem? (i := 332) rfl
set_option maxRecDepth 100000 in
theorem wd_333 : (.methodLink RXE 50 yXE_clears : Cond) ∈ W0 := List.mem_of_getElem? (i := 333) rfl
set_option maxRecDepth 100000 in
theorem wd_334 : (.methodLink RXL 87 yXF_obstacle : Cond) ∈ W0 := List.mem_of_getElem? (i := 334) rfl
set_option maxRecDepth 100000 in
theorem wd_335 : (.instanceMethod yXF_obstacle : Cond) ∈ W0 := List.mem_of_getElem? (i := 335) rfl
set_option maxRecDepth 100000 in
theorem wd_336 : (.selects RXF yXF_obstacle yXF_obstacle : Cond) ∈ W0 := List.mem_of_getElem? (i := 336) rfl
set_option maxRecDepth 100000 in
theorem wd_337 : (.code yXF_obstacle cXF_obstacle 3 (some .int) : Cond) ∈ W0 := List.mem_of_getElem? (i := 337) rfl
set_option maxRecDepth 100000 in
theorem wd_338 : (.methodLink RXF 108 yXJ_bitCount : Cond) ∈ W0 := List.mem_of_getElem? (i := 338) rfl
set_option maxRecDepth 100000 in
theorem wd_339 : (.methodLink RXF 113 yXG_edgesInside : Cond) ∈ W0 := List.mem_of_getElem? (i := 339) rfl
set_option maxRecDepth 100000 in
theorem wd_340 : (.instanceMethod yXG_edgesInside : Cond) ∈ W0 := List.mem_of_getElem? (i := 340) rfl
set_option maxRecDepth 100000 in
theorem wd_341 : (.selects RXG yXG_edgesInside yXG_edgesInside : Cond) ∈ W0 := List.mem_of_getElem? (i := 341) rfl
set_option maxRecDepth 100000 in
theorem wd_342 : (.code yXG_edgesInside cXG_edgesInside 4 (some .int) : Cond) ∈ W0 := List.mem_of_getElem? (i := 342) rfl
set_option maxRecDepth 100000 in
theorem wd_343 : (.methodLink RXG 27 yXJ_bitCount : Cond) ∈ W0 := List.mem_of_getElem? (i := 343) rfl
set_option maxRecDepth 100000 in
theorem wd_344 : (.methodLink RXF 116 yXF_obstacleKind : Cond) ∈ W0 := List.mem_of_getElem? (i := 344) rfl
set_option maxRecDepth 100000 in
theorem wd_345 : (.static yXF_obstacleKind : Cond) ∈ W0 := List.mem_of_getElem? (i := 345) rfl
set_option maxRecDepth 100000 in
theorem wd_346 : (.code yXF_obstacleKind cXF_obstacleKind 2 (some .int) : Cond) ∈ W0 := List.mem_of_getElem? (i := 346) rfl
set_option maxRecDepth 100000 in
theorem wd_347 : (.methodLink RXL 91 yXF_apart : Cond) ∈ W0 := List.mem_of_getElem? (i := 347) rfl
set_option maxRecDepth 100000 in
theorem wd_348 : (.instanceMethod yXF_apart : Cond) ∈ W0 := List.mem_of_getElem? (i := 348) rfl
set_option maxRecDepth 100000 in
theorem wd_349 : (.selects RXF yXF_apart yXF_apart : Cond) ∈ W0 := List.mem_of_getElem? (i := 349) rfl
set_option maxRecDepth 100000 in
theorem wd_350 : (.code yXF_apart cXF_apart 2 (some .int) : Cond) ∈ W0 := List.mem_of_getElem? (i := 350) rfl
set_option maxRecDepth 100000 in
theorem wd_351 : (.methodLink RXF 119 yXF_hereditary : Cond) ∈ W0 := List.mem_of_getElem? (i := 351) rfl
set_option maxRecDepth 100000 in
theorem wd_352 : (.methodLink RXF 122 yXC_largestApart : Cond) ∈ W0 := List.mem_of_getElem? (i := 352) rfl
set_option maxRecDepth 100000 in
theorem wd_353 : (.instanceMethod yXC_largestApart : Cond) ∈ W0 := List.mem_of_getElem? (i := 353) rfl
set_option maxRecDepth 100000 in
theorem wd_354 : (.selects RXC yXC_largestApart yXC_largestApart : Cond) ∈ W0 := List.mem_of_getElem? (i := 354) rfl
set_option maxRecDepth 100000 in
theorem wd_355 : (.code yXC_largestApart cXC_largestApart 4 (some .int) : Cond) ∈ W0 := List.mem_of_getElem? (i := 355) rfl
set_option maxRecDepth 100000 in
theorem wd_356 : (.methodLink RXC 23 yXJ_bitCount : Cond) ∈ W0 := List.mem_of_getElem? (i := 356) rfl
set_option maxRecDepth 100000 in
theorem wd_357 : (.methodLink RXC 29 yXG_joined : Cond) ∈ W0 := List.mem_of_getElem? (i := 357) rfl
set_option maxRecDepth 100000 in
theorem wd_358 : (.methodLink RXL 95 yXF_chosen : Cond) ∈ W0 := List.mem_of_getElem? (i := 358) rfl
set_option maxRecDepth 100000 in
theorem wd_359 : (.instanceMethod yXF_chosen : Cond) ∈ W0 := List.mem_of_getElem? (i := 359) rfl
set_option maxRecDepth 100000 in
theorem wd_360 : (.selects RXF yXF_chosen yXF_chosen : Cond) ∈ W0 := List.mem_of_getElem? (i := 360) rfl
set_option maxRecDepth 100000 in
theorem wd_361 : (.code yXF_chosen cXF_chosen 2 (some .int) : Cond) ∈ W0 := List.mem_of_getElem? (i := 361) rfl
set_option maxRecDepth 100000 in
theorem wd_362 : (.methodLink RXL 99 yXF_cover : Cond) ∈ W0 := List.mem_of_getElem? (i := 362) rfl
set_option maxRecDepth 100000 in
theorem wd_363 : (.instanceMethod yXF_cover : Cond) ∈ W0 := List.mem_of_getElem? (i := 363) rfl
set_option maxRecDepth 100000 in
theorem wd_364 : (.selects RXF yXF_cover yXF_cover : Cond) ∈ W0 := List.mem_of_getElem? (i := 364) rfl
set_option maxRecDepth 100000 in
theorem wd_365 : (.code yXF_cover cXF_cover 2 (some .int) : Cond) ∈ W0 := List.mem_of_getElem? (i := 365) rfl
set_option maxRecDepth 100000 in
theorem wd_366 : (.methodLink RXF 125 yXC_fewestCliques : Cond) ∈ W0 := List.mem_of_getElem? (i := 366) rfl
set_option maxRecDepth 100000 in
theorem wd_367 : (.instanceMethod yXC_fewestCliques : Cond) ∈ W0 := List.mem_of_getElem? (i := 367) rfl
set_option maxRecDepth 100000 in
theorem wd_368 : (.selects RXC yXC_fewestCliques yXC_fewestCliques : Cond) ∈ W0 := List.mem_of_getElem? (i := 368) rfl
set_option maxRecDepth 100000 in
theorem wd_369 : (.code yXC_fewestCliques cXC_fewestCliques 4 (some .int) : Cond) ∈ W0 := List.mem_of_getElem? (i := 369) rfl
set_option maxRecDepth 100000 in
theorem wd_370 : (.methodLink RXC 38 yXC_coverWith : Cond) ∈ W0 := List.mem_of_getElem? (i := 370) rfl
set_option maxRecDepth 100000 in
theorem wd_371 : (.instanceMethod yXC_coverWith : Cond) ∈ W0 := List.mem_of_getElem? (i := 371) rfl
set_option maxRecDepth 100000 in
theorem wd_372 : (.code yXC_coverWith cXC_coverWith 4 none : Cond) ∈ W0 := List.mem_of_getElem? (i := 372) rfl
set_option maxRecDepth 100000 in
theorem wd_373 : (.methodLink RXC 42 yXC_fewestWith : Cond) ∈ W0 := List.mem_of_getElem? (i := 373) rfl
set_option maxRecDepth 100000 in
theorem wd_374 : (.instanceMethod yXC_fewestWith : Cond) ∈ W0 := List.mem_of_getElem? (i := 374) rfl
set_option maxRecDepth 100000 in
theorem wd_375 : (.code yXC_fewestWith cXC_fewestWith 6 (some .int) : Cond) ∈ W0 := List.mem_of_getElem? (i := 375) rfl
set_option maxRecDepth 100000 in
theorem wd_376 : (.methodLink RXC 46 yXG_nearInside : Cond) ∈ W0 := List.mem_of_getElem? (i := 376) rfl
set_option maxRecDepth 100000 in
theorem wd_377 : (.methodLink RXC 49 Lib.Math.min.name : Cond) ∈ W0 := List.mem_of_getElem? (i := 377) rfl
set_option maxRecDepth 100000 in
theorem wd_378 : (.static Lib.Math.min.name : Cond) ∈ W0 := List.mem_of_getElem? (i := 378) rfl
set_option maxRecDepth 100000 in
theorem wd_379 : (.code Lib.Math.min.name Lib.Math.min.code 2 (some .int) : Cond) ∈ W0 := List.mem_of_getElem? (i := 379) rfl
set_option maxRecDepth 100000 in
theorem wd_380 : (.methodLink RXL 9 yXL_cell : Cond) ∈ W0 := List.mem_of_getElem? (i := 380) rfl
set_option maxRecDepth 100000 in
theorem wd_381 : (.static yXL_cell : Cond) ∈ W0 := List.mem_of_getElem? (i := 381) rfl
set_option maxRecDepth 100000 in
theorem wd_382 : (.code yXL_cell cXL_cell 2 (some .int) : Cond) ∈ W0 := List.mem_of_getElem? (i := 382) rfl
set_option maxRecDepth 100000 in
theorem wd_383 : (.classLink RXL 18 RXM : Cond) ∈ W0 := List.mem_of_getElem? (i := 383) rfl
set_option maxRecDepth 100000 in
theorem wd_384 : (.instantiable RXM 12 : Cond) ∈ W0 := List.mem_of_getElem? (i := 384) rfl
set_option maxRecDepth 100000 in
theorem wd_385 : (.methodLink RXL 20 yXM_init : Cond) ∈ W0 := List.mem_of_getElem? (i := 385) rfl
set_option maxRecDepth 100000 in
theorem wd_386 : (.instanceMethod yXM_init : Cond) ∈ W0 := List.mem_of_getElem? (i := 386) rfl
set_option maxRecDepth 100000 in
theorem wd_387 : (.code yXM_init cXM_init 2 none : Cond) ∈ W0 := List.mem_of_getElem? (i := 387) rfl
set_option maxRecDepth 100000 in
theorem wd_388 : (.methodLink RXM 1 objectInit : Cond) ∈ W0 := List.mem_of_getElem? (i := 388) rfl
set_option maxRecDepth 100000 in
theorem wd_389 : (.fieldLink RXM 28 "SplitForestModel" "n" "I" : Cond) ∈ W0 := List.mem_of_getElem? (i := 389) rfl
set_option maxRecDepth 100000 in
theorem wd_390 : (.fieldLink RXM 7 "SplitForestModel" "near" "[I" : Cond) ∈ W0 := List.mem_of_getElem? (i := 390) rfl
set_option maxRecDepth 100000 in
theorem wd_391 : (.fieldLink RXM 40 "SplitForestModel" "splits" "I" : Cond) ∈ W0 := List.mem_of_getElem? (i := 391) rfl
set_option maxRecDepth 100000 in
theorem wd_392 : (.fieldLink RXM 13 "SplitForestModel" "split" "[I" : Cond) ∈ W0 := List.mem_of_getElem? (i := 392) rfl
set_option maxRecDepth 100000 in
theorem wd_393 : (.fieldLink RXM 54 "SplitForestModel" "strongs" "I" : Cond) ∈ W0 := List.mem_of_getElem? (i := 393) rfl
set_option maxRecDepth 100000 in
theorem wd_394 : (.fieldLink RXM 16 "SplitForestModel" "strong" "[I" : Cond) ∈ W0 := List.mem_of_getElem? (i := 394) rfl
set_option maxRecDepth 100000 in
theorem wd_395 : (.fieldLink RXM 73 "SplitForestModel" "parts" "I" : Cond) ∈ W0 := List.mem_of_getElem? (i := 395) rfl
set_option maxRecDepth 100000 in
theorem wd_396 : (.fieldLink RXM 19 "SplitForestModel" "part" "[I" : Cond) ∈ W0 := List.mem_of_getElem? (i := 396) rfl
set_option maxRecDepth 100000 in
theorem wd_397 : (.fieldLink RXM 96 "SplitForestModel" "steps" "I" : Cond) ∈ W0 := List.mem_of_getElem? (i := 397) rfl
set_option maxRecDepth 100000 in
theorem wd_398 : (.fieldLink RXM 22 "SplitForestModel" "step" "[I" : Cond) ∈ W0 := List.mem_of_getElem? (i := 398) rfl
set_option maxRecDepth 100000 in
theorem wd_399 : (.fieldLink RXM 102 "SplitForestModel" "whole" "Z" : Cond) ∈ W0 := List.mem_of_getElem? (i := 399) rfl
set_option maxRecDepth 100000 in
theorem wd_400 : (.fieldLink RXM 25 "SplitForestModel" "covers" "[I" : Cond) ∈ W0 := List.mem_of_getElem? (i := 400) rfl
set_option maxRecDepth 100000 in
theorem wd_401 : (.laysFinal RXM "SplitForestModel" "n" "I" : Cond) ∈ W0 := List.mem_of_getElem? (i := 401) rfl
set_option maxRecDepth 100000 in
theorem wd_402 : (.laysFinal RXM "SplitForestModel" "near" "[I" : Cond) ∈ W0 := List.mem_of_getElem? (i := 402) rfl
set_option maxRecDepth 100000 in
theorem wd_403 : (.lays RXM "SplitForestModel" "splits" "I" : Cond) ∈ W0 := List.mem_of_getElem? (i := 403) rfl
set_option maxRecDepth 100000 in
theorem wd_404 : (.laysFinal RXM "SplitForestModel" "split" "[I" : Cond) ∈ W0 := List.mem_of_getElem? (i := 404) rfl
set_option maxRecDepth 100000 in
theorem wd_405 : (.lays RXM "SplitForestModel" "strongs" "I" : Cond) ∈ W0 := List.mem_of_getElem? (i := 405) rfl
set_option maxRecDepth 100000 in
theorem wd_406 : (.laysFinal RXM "SplitForestModel" "strong" "[I" : Cond) ∈ W0 := List.mem_of_getElem? (i := 406) rfl
set_option maxRecDepth 100000 in
theorem wd_407 : (.lays RXM "SplitForestModel" "parts" "I" : Cond) ∈ W0 := List.mem_of_getElem? (i := 407) rfl
set_option maxRecDepth 100000 in
theorem wd_408 : (.laysFinal RXM "SplitForestModel" "part" "[I" : Cond) ∈ W0 := List.mem_of_getElem? (i := 408) rfl
set_option maxRecDepth 100000 in
theorem wd_409 : (.lays RXM "SplitForestModel" "steps" "I" : Cond) ∈ W0 := List.mem_of_getElem? (i := 409) rfl
set_option maxRecDepth 100000 in
theorem wd_410 : (.laysFinal RXM "SplitForestModel" "step" "[I" : Cond) ∈ W0 := List.mem_of_getElem? (i := 410) rfl
set_option maxRecDepth 100000 in
theorem wd_411 : (.lays RXM "SplitForestModel" "whole" "Z" : Cond) ∈ W0 := List.mem_of_getElem? (i := 411) rfl
set_option maxRecDepth 100000 in
theorem wd_412 : (.laysFinal RXM "SplitForestModel" "covers" "[I" : Cond) ∈ W0 := List.mem_of_getElem? (i := 412) rfl
set_option maxRecDepth 100000 in
theorem wd_413 : (.methodLink RXL 25 yXM_vertices : Cond) ∈ W0 := List.mem_of_getElem? (i := 413) rfl
set_option maxRecDepth 100000 in
theorem wd_414 : (.instanceMethod yXM_vertices : Cond) ∈ W0 := List.mem_of_getElem? (i := 414) rfl
set_option maxRecDepth 100000 in
theorem wd_415 : (.selects RXM yXM_vertices yXM_vertices : Cond) ∈ W0 := List.mem_of_getElem? (i := 415) rfl
set_option maxRecDepth 100000 in
theorem wd_416 : (.code yXM_vertices cXM_vertices 1 (some .int) : Cond) ∈ W0 := List.mem_of_getElem? (i := 416) rfl
set_option maxRecDepth 100000 in
theorem wd_417 : (.methodLink RXL 30 yXM_flip : Cond) ∈ W0 := List.mem_of_getElem? (i := 417) rfl
set_option maxRecDepth 100000 in
theorem wd_418 : (.instanceMethod yXM_flip : Cond) ∈ W0 := List.mem_of_getElem? (i := 418) rfl
set_option maxRecDepth 100000 in
theorem wd_419 : (.selects RXM yXM_flip yXM_flip : Cond) ∈ W0 := List.mem_of_getElem? (i := 419) rfl
set_option maxRecDepth 100000 in
theorem wd_420 : (.code yXM_flip cXM_flip 3 (some .boolean) : Cond) ∈ W0 := List.mem_of_getElem? (i := 420) rfl
set_option maxRecDepth 100000 in
theorem wd_421 : (.methodLink RXM 32 yXM_is : Cond) ∈ W0 := List.mem_of_getElem? (i := 421) rfl
set_option maxRecDepth 100000 in
theorem wd_422 : (.instanceMethod yXM_is : Cond) ∈ W0 := List.mem_of_getElem? (i := 422) rfl
set_option maxRecDepth 100000 in
theorem wd_423 : (.code yXM_is cXM_is 2 (some .boolean) : Cond) ∈ W0 := List.mem_of_getElem? (i := 423) rfl
set_option maxRecDepth 100000 in
theorem wd_424 : (.methodLink RXL 34 yXM_neighbours : Cond) ∈ W0 := List.mem_of_getElem? (i := 424) rfl
set_option maxRecDepth 100000 in
theorem wd_425 : (.instanceMethod yXM_neighbours : Cond) ∈ W0 := List.mem_of_getElem? (i := 425) rfl
set_option maxRecDepth 100000 in
theorem wd_426 : (.selects RXM yXM_neighbours yXM_neighbours : Cond) ∈ W0 := List.mem_of_getElem? (i := 426) rfl
set_option maxRecDepth 100000 in
theorem wd_427 : (.code yXM_neighbours cXM_neighbours 3 (some .boolean) : Cond) ∈ W0 := List.mem_of_getElem? (i := 427) rfl
set_option maxRecDepth 100000 in
theorem wd_428 : (.methodLink RXL 39 yXM_component : Cond) ∈ W0 := List.mem_of_getElem? (i := 428) rfl
set_option maxRecDepth 100000 in
theorem wd_429 : (.instanceMethod yXM_component : Cond) ∈ W0 := List.mem_of_getElem? (i := 429) rfl
set_option maxRecDepth 100000 in
theorem wd_430 : (.selects RXM yXM_component yXM_component : Cond) ∈ W0 := List.mem_of_getElem? (i := 430) rfl
set_option maxRecDepth 100000 in
theorem wd_431 : (.code yXM_component cXM_component 2 (some .int) : Cond) ∈ W0 := List.mem_of_getElem? (i := 431) rfl
set_option maxRecDepth 100000 in
theorem wd_432 : (.methodLink RXM 36 yXM_within : Cond) ∈ W0 := List.mem_of_getElem? (i := 432) rfl
set_option maxRecDepth 100000 in
theorem wd_433 : (.instanceMethod yXM_within : Cond) ∈ W0 := List.mem_of_getElem? (i := 433) rfl
set_option maxRecDepth 100000 in
theorem wd_434 : (.code yXM_within cXM_within 6 (some .int) : Cond) ∈ W0 := List.mem_of_getElem? (i := 434) rfl
set_option maxRecDepth 100000 in
theorem wd_435 : (.methodLink RXL 43 yXM_splits : Cond) ∈ W0 := List.mem_of_getElem? (i := 435) rfl
set_option maxRecDepth 100000 in
theorem wd_436 : (.instanceMethod yXM_splits : Cond) ∈ W0 := List.mem_of_getElem? (i := 436) rfl
set_option maxRecDepth 100000 in
theorem wd_437 : (.selects RXM yXM_splits yXM_splits : Cond) ∈ W0 := List.mem_of_getElem? (i := 437) rfl
set_option maxRecDepth 100000 in
theorem wd_438 : (.code yXM_splits cXM_splits 2 (some .int) : Cond) ∈ W0 := List.mem_of_getElem? (i := 438) rfl
set_option maxRecDepth 100000 in
theorem wd_439 : (.methodLink RXM 60 yXM_component : Cond) ∈ W0 := List.mem_of_getElem? (i := 439) rfl
set_option maxRecDepth 100000 in
theorem wd_440 : (.methodLink RXM 63 yXM_find : Cond) ∈ W0 := List.mem_of_getElem? (i := 440) rfl
set_option maxRecDepth 100000 in
theorem wd_441 : (.instanceMethod yXM_find : Cond) ∈ W0 := List.mem_of_getElem? (i := 441) rfl
set_option maxRecDepth 100000 in
theorem wd_442 : (.code yXM_find cXM_find 6 none : Cond) ∈ W0 := List.mem_of_getElem? (i := 442) rfl
set_option maxRecDepth 100000 in
theorem wd_443 : (.methodLink RXM 43 yXM_least : Cond) ∈ W0 := List.mem_of_getElem? (i := 443) rfl
set_option maxRecDepth 100000 in
theorem wd_444 : (.static yXM_least : Cond) ∈ W0 := List.mem_of_getElem? (i := 444) rfl
set_option maxRecDepth 100000 in
theorem wd_445 : (.code yXM_least cXM_least 2 (some .int) : Cond) ∈ W0 := List.mem_of_getElem? (i := 445) rfl
set_option maxRecDepth 100000 in
theorem wd_446 : (.methodLink RXM 47 yXM_size : Cond) ∈ W0 := List.mem_of_getElem? (i := 446) rfl
set_option maxRecDepth 100000 in
theorem wd_447 : (.static yXM_size : Cond) ∈ W0 := List.mem_of_getElem? (i := 447) rfl
set_option maxRecDepth 100000 in
theorem wd_448 : (.code yXM_size cXM_size 3 (some .int) : Cond) ∈ W0 := List.mem_of_getElem? (i := 448) rfl
set_option maxRecDepth 100000 in
theorem wd_449 : (.methodLink RXM 50 yXM_complete : Cond) ∈ W0 := List.mem_of_getElem? (i := 449) rfl
set_option maxRecDepth 100000 in
theorem wd_450 : (.instanceMethod yXM_complete : Cond) ∈ W0 := List.mem_of_getElem? (i := 450) rfl
set_option maxRecDepth 100000 in
theorem wd_451 : (.code yXM_complete cXM_complete 7 (some .boolean) : Cond) ∈ W0 := List.mem_of_getElem? (i := 451) rfl
set_option maxRecDepth 100000 in
theorem wd_452 : (.methodLink RXM 57 yXM_cross : Cond) ∈ W0 := List.mem_of_getElem? (i := 452) rfl
set_option maxRecDepth 100000 in
theorem wd_453 : (.static yXM_cross : Cond) ∈ W0 := List.mem_of_getElem? (i := 453) rfl
set_option maxRecDepth 100000 in
theorem wd_454 : (.code yXM_cross cXM_cross 2 (some .boolean) : Cond) ∈ W0 := List.mem_of_getElem? (i := 454) rfl
set_option maxRecDepth 100000 in
theorem wd_455 : (.methodLink RXL 47 yXM_strong : Cond) ∈ W0 := List.mem_of_getElem? (i := 455) rfl
set_option maxRecDepth 100000 in
theorem wd_456 : (.instanceMethod yXM_strong : Cond) ∈ W0 := List.mem_of_getElem? (i := 456) rfl
set_option maxRecDepth 100000 in
theorem wd_457 : (.selects RXM yXM_strong yXM_strong : Cond) ∈ W0 := List.mem_of_getElem? (i := 457) rfl
set_option maxRecDepth 100000 in
theorem wd_458 : (.code yXM_strong cXM_strong 2 (some .int) : Cond) ∈ W0 := List.mem_of_getElem? (i := 458) rfl
set_option maxRecDepth 100000 in
theorem wd_459 : (.methodLink RXL 52 yXM_set : Cond) ∈ W0 := List.mem_of_getElem? (i := 459) rfl
set_option maxRecDepth 100000 in
theorem wd_460 : (.instanceMethod yXM_set : Cond) ∈ W0 := List.mem_of_getElem? (i := 460) rfl
set_option maxRecDepth 100000 in
theorem wd_461 : (.selects RXM yXM_set yXM_set : Cond) ∈ W0 := List.mem_of_getElem? (i := 461) rfl
set_option maxRecDepth 100000 in
theorem wd_462 : (.code yXM_set cXM_set 3 (some .int) : Cond) ∈ W0 := List.mem_of_getElem? (i := 462) rfl
set_option maxRecDepth 100000 in
theorem wd_463 : (.methodLink RXM 67 yXM_nodeSet : Cond) ∈ W0 := List.mem_of_getElem? (i := 463) rfl
set_option maxRecDepth 100000 in
theorem wd_464 : (.instanceMethod yXM_nodeSet : Cond) ∈ W0 := List.mem_of_getElem? (i := 464) rfl
set_option maxRecDepth 100000 in
theorem wd_465 : (.code yXM_nodeSet cXM_nodeSet 4 (some .int) : Cond) ∈ W0 := List.mem_of_getElem? (i := 465) rfl
set_option maxRecDepth 100000 in
theorem wd_466 : (.methodLink RXL 56 yXM_kind : Cond) ∈ W0 := List.mem_of_getElem? (i := 466) rfl
set_option maxRecDepth 100000 in
theorem wd_467 : (.instanceMethod yXM_kind : Cond) ∈ W0 := List.mem_of_getElem? (i := 467) rfl
set_option maxRecDepth 100000 in
theorem wd_468 : (.selects RXM yXM_kind yXM_kind : Cond) ∈ W0 := List.mem_of_getElem? (i := 468) rfl
set_option maxRecDepth 100000 in
theorem wd_469 : (.code yXM_kind cXM_kind 4 (some .int) : Cond) ∈ W0 := List.mem_of_getElem? (i := 469) rfl
set_option maxRecDepth 100000 in
theorem wd_470 : (.methodLink RXM 86 yXM_open : Cond) ∈ W0 := List.mem_of_getElem? (i := 470) rfl
set_option maxRecDepth 100000 in
theorem wd_471 : (.instanceMethod yXM_open : Cond) ∈ W0 := List.mem_of_getElem? (i := 471) rfl
set_option maxRecDepth 100000 in
theorem wd_472 : (.code yXM_open cXM_open 6 (some .boolean) : Cond) ∈ W0 := List.mem_of_getElem? (i := 472) rfl
set_option maxRecDepth 100000 in
theorem wd_473 : (.methodLink RXM 76 yXM_isPart : Cond) ∈ W0 := List.mem_of_getElem? (i := 473) rfl
set_option maxRecDepth 100000 in
theorem wd_474 : (.instanceMethod yXM_isPart : Cond) ∈ W0 := List.mem_of_getElem? (i := 474) rfl
set_option maxRecDepth 100000 in
theorem wd_475 : (.code yXM_isPart cXM_isPart 10 (some .boolean) : Cond) ∈ W0 := List.mem_of_getElem? (i := 475) rfl
set_option maxRecDepth 100000 in
theorem wd_476 : (.methodLink RXM 70 yXM_inside : Cond) ∈ W0 := List.mem_of_getElem? (i := 476) rfl
set_option maxRecDepth 100000 in
theorem wd_477 : (.static yXM_inside : Cond) ∈ W0 := List.mem_of_getElem? (i := 477) rfl
set_option maxRecDepth 100000 in
theorem wd_478 : (.code yXM_inside cXM_inside 2 (some .boolean) : Cond) ∈ W0 := List.mem_of_getElem? (i := 478) rfl
set_option maxRecDepth 100000 in
theorem wd_479 : (.methodLink RXM 89 yXM_middle : Cond) ∈ W0 := List.mem_of_getElem? (i := 479) rfl
set_option maxRecDepth 100000 in
theorem wd_480 : (.instanceMethod yXM_middle : Cond) ∈ W0 := List.mem_of_getElem? (i := 480) rfl
set_option maxRecDepth 100000 in
theorem wd_481 : (.code yXM_middle cXM_middle 4 (some .int) : Cond) ∈ W0 := List.mem_of_getElem? (i := 481) rfl
set_option maxRecDepth 100000 in
theorem wd_482 : (.methodLink RXM 83 yXM_links : Cond) ∈ W0 := List.mem_of_getElem? (i := 482) rfl
set_option maxRecDepth 100000 in
theorem wd_483 : (.instanceMethod yXM_links : Cond) ∈ W0 := List.mem_of_getElem? (i := 483) rfl
set_option maxRecDepth 100000 in
theorem wd_484 : (.code yXM_links cXM_links 4 (some .int) : Cond) ∈ W0 := List.mem_of_getElem? (i := 484) rfl
set_option maxRecDepth 100000 in
theorem wd_485 : (.methodLink RXM 80 yXM_joined : Cond) ∈ W0 := List.mem_of_getElem? (i := 485) rfl
set_option maxRecDepth 100000 in
theorem wd_486 : (.instanceMethod yXM_joined : Cond) ∈ W0 := List.mem_of_getElem? (i := 486) rfl
set_option maxRecDepth 100000 in
theorem wd_487 : (.code yXM_joined cXM_joined 5 (some .boolean) : Cond) ∈ W0 := List.mem_of_getElem? (i := 487) rfl
set_option maxRecDepth 100000 in
theorem wd_488 : (.methodLink RXL 60 yXM_parts : Cond) ∈ W0 := List.mem_of_getElem? (i := 488) rfl
set_option maxRecDepth 100000 in
theorem wd_489 : (.instanceMethod yXM_parts : Cond) ∈ W0 := List.mem_of_getElem? (i := 489) rfl
set_option maxRecDepth 100000 in
theorem wd_490 : (.selects RXM yXM_parts yXM_parts : Cond) ∈ W0 := List.mem_of_getElem? (i := 490) rfl
set_option maxRecDepth 100000 in
theorem wd_491 : (.code yXM_parts cXM_parts 3 (some .int) : Cond) ∈ W0 := List.mem_of_getElem? (i := 491) rfl
set_option maxRecDepth 100000 in
theorem wd_492 : (.methodLink RXL 65 yXM_part : Cond) ∈ W0 := List.mem_of_getElem? (i := 492) rfl
set_option maxRecDepth 100000 in
theorem wd_493 : (.instanceMethod yXM_part : Cond) ∈ W0 := List.mem_of_getElem? (i := 493) rfl
set_option maxRecDepth 100000 in
theorem wd_494 : (.selects RXM yXM_part yXM_part : Cond) ∈ W0 := List.mem_of_getElem? (i := 494) rfl
set_option maxRecDepth 100000 in
theorem wd_495 : (.code yXM_part cXM_part 4 (some .int) : Cond) ∈ W0 := List.mem_of_getElem? (i := 495) rfl
set_option maxRecDepth 100000 in
theorem wd_496 : (.methodLink RXL 69 yXM_centre : Cond) ∈ W0 := List.mem_of_getElem? (i := 496) rfl
set_option maxRecDepth 100000 in
theorem wd_497 : (.instanceMethod yXM_centre : Cond) ∈ W0 := List.mem_of_getElem? (i := 497) rfl
set_option maxRecDepth 100000 in
theorem wd_498 : (.selects RXM yXM_centre yXM_centre : Cond) ∈ W0 := List.mem_of_getElem? (i := 498) rfl
set_option maxRecDepth 100000 in
theorem wd_499 : (.code yXM_centre cXM_centre 4 (some .int) : Cond) ∈ W0 := List.mem_of_getElem? (i := 499) rfl
set_option maxRecDepth 100000 in
theorem wd_500 : (.methodLink RXL 73 yXM_linked : Cond) ∈ W0 := List.mem_of_getElem? (i := 500) rfl
set_option maxRecDepth 100000 in
theorem wd_501 : (.instanceMethod yXM_linked : Cond) ∈ W0 := List.mem_of_getElem? (i := 501) rfl
set_option maxRecDepth 100000 in
theorem wd_502 : (.selects RXM yXM_linked yXM_linked : Cond) ∈ W0 := List.mem_of_getElem? (i := 502) rfl
set_option maxRecDepth 100000 in
theorem wd_503 : (.code yXM_linked cXM_linked 9 (some .boolean) : Cond) ∈ W0 := List.mem_of_getElem? (i := 503) rfl
set_option maxRecDepth 100000 in
theorem wd_504 : (.methodLink RXM 93 yXM_partOf : Cond) ∈ W0 := List.mem_of_getElem? (i := 504) rfl
set_option maxRecDepth 100000 in
theorem wd_505 : (.instanceMethod yXM_partOf : Cond) ∈ W0 := List.mem_of_getElem? (i := 505) rfl
set_option maxRecDepth 100000 in
theorem wd_506 : (.code yXM_partOf cXM_partOf 4 (some .int) : Cond) ∈ W0 := List.mem_of_getElem? (i := 506) rfl
set_option maxRecDepth 100000 in
theorem wd_507 : (.methodLink RXL 78 yXM_hereditary : Cond) ∈ W0 := List.mem_of_getElem? (i := 507) rfl
set_option maxRecDepth 100000 in
theorem wd_508 : (.instanceMethod yXM_hereditary : Cond) ∈ W0 := List.mem_of_getElem? (i := 508) rfl
set_option maxRecDepth 100000 in
theorem wd_509 : (.selects RXM yXM_hereditary yXM_hereditary : Cond) ∈ W0 := List.mem_of_getElem? (i := 509) rfl
set_option maxRecDepth 100000 in
theorem wd_510 : (.code yXM_hereditary cXM_hereditary 2 (some .boolean) : Cond) ∈ W0 := List.mem_of_getElem? (i := 510) rfl
set_option maxRecDepth 100000 in
theorem wd_511 : (.methodLink RXM 109 yXM_fine : Cond) ∈ W0 := List.mem_of_getElem? (i := 511) rfl
set_option maxRecDepth 100000 in
theorem wd_512 : (.instanceMethod yXM_fine : Cond) ∈ W0 := List.mem_of_getElem? (i := 512) rfl
set_option maxRecDepth 100000 in
theorem wd_513 : (.code yXM_fine cXM_fine 4 (some .boolean) : Cond) ∈ W0 := List.mem_of_getElem? (i := 513) rfl
set_option maxRecDepth 100000 in
theorem wd_514 : (.methodLink RXM 106 yXM_eliminate : Cond) ∈ W0 := List.mem_of_getElem? (i := 514) rfl
set_option maxRecDepth 100000 in
theorem wd_515 : (.instanceMethod yXM_eliminate : Cond) ∈ W0 := List.mem_of_getElem? (i := 515) rfl
set_option maxRecDepth 100000 in
theorem wd_516 : (.code yXM_eliminate cXM_eliminate 5 none : Cond) ∈ W0 := List.mem_of_getElem? (i := 516) rfl
set_option maxRecDepth 100000 in
theorem wd_517 : (.methodLink RXM 99 yXM_way : Cond) ∈ W0 := List.mem_of_getElem? (i := 517) rfl
set_option maxRecDepth 100000 in
theorem wd_518 : (.instanceMethod yXM_way : Cond) ∈ W0 := List.mem_of_getElem? (i := 518) rfl
set_option maxRecDepth 100000 in
theorem wd_519 : (.code yXM_way cXM_way 7 (some .int) : Cond) ∈ W0 := List.mem_of_getElem? (i := 519) rfl
set_option maxRecDepth 100000 in
theorem wd_520 : (.methodLink RXL 82 yXM_step : Cond) ∈ W0 := List.mem_of_getElem? (i := 520) rfl
set_option maxRecDepth 100000 in
theorem wd_521 : (.instanceMethod yXM_step : Cond) ∈ W0 := List.mem_of_getElem? (i := 521) rfl
set_option maxRecDepth 100000 in
theorem wd_522 : (.selects RXM yXM_step yXM_step : Cond) ∈ W0 := List.mem_of_getElem? (i := 522) rfl
set_option maxRecDepth 100000 in
theorem wd_523 : (.code yXM_step cXM_step 3 (some .int) : Cond) ∈ W0 := List.mem_of_getElem? (i := 523) rfl
set_option maxRecDepth 100000 in
theorem wd_524 : (.methodLink RXL 86 yXM_obstruction : Cond) ∈ W0 := List.mem_of_getElem? (i := 524) rfl
set_option maxRecDepth 100000 in
theorem wd_525 : (.instanceMethod yXM_obstruction : Cond) ∈ W0 := List.mem_of_getElem? (i := 525) rfl
set_option maxRecDepth 100000 in
theorem wd_526 : (.selects RXM yXM_obstruction yXM_obstruction : Cond) ∈ W0 := List.mem_of_getElem? (i := 526) rfl
set_option maxRecDepth 100000 in
theorem wd_527 : (.code yXM_obstruction cXM_obstruction 5 (some .int) : Cond) ∈ W0 := List.mem_of_getElem? (i := 527) rfl
set_option maxRecDepth 100000 in
theorem wd_528 : (.methodLink RXL 90 yXM_obstacle : Cond) ∈ W0 := List.mem_of_getElem? (i := 528) rfl
set_option maxRecDepth 100000 in
theorem wd_529 : (.instanceMethod yXM_obstacle : Cond) ∈ W0 := List.mem_of_getElem? (i := 529) rfl
set_option maxRecDepth 100000 in
theorem wd_530 : (.selects RXM yXM_obstacle yXM_obstacle : Cond) ∈ W0 := List.mem_of_getElem? (i := 530) rfl
set_option maxRecDepth 100000 in
theorem wd_531 : (.code yXM_obstacle cXM_obstacle 5 (some .int) : Cond) ∈ W0 := List.mem_of_getElem? (i := 531) rfl
set_option maxRecDepth 100000 in
theorem wd_532 : (.methodLink RXM 112 yXM_obstruction : Cond) ∈ W0 := List.mem_of_getElem? (i := 532) rfl
set_option maxRecDepth 100000 in
theorem wd_533 : (.methodLink RXM 115 yXM_edges : Cond) ∈ W0 := List.mem_of_getElem? (i := 533) rfl
set_option maxRecDepth 100000 in
theorem wd_534 : (.instanceMethod yXM_edges : Cond) ∈ W0 := List.mem_of_getElem? (i := 534) rfl
set_option maxRecDepth 100000 in
theorem wd_535 : (.code yXM_edges cXM_edges 4 (some .int) : Cond) ∈ W0 := List.mem_of_getElem? (i := 535) rfl
set_option maxRecDepth 100000 in
theorem wd_536 : (.methodLink RXL 94 yXM_apart : Cond) ∈ W0 := List.mem_of_getElem? (i := 536) rfl
set_option maxRecDepth 100000 in
theorem wd_537 : (.instanceMethod yXM_apart : Cond) ∈ W0 := List.mem_of_getElem? (i := 537) rfl
set_option maxRecDepth 100000 in
theorem wd_538 : (.selects RXM yXM_apart yXM_apart : Cond) ∈ W0 := List.mem_of_getElem? (i := 538) rfl
set_option maxRecDepth 100000 in
theorem wd_539 : (.code yXM_apart cXM_apart 2 (some .int) : Cond) ∈ W0 := List.mem_of_getElem? (i := 539) rfl
set_option maxRecDepth 100000 in
theorem wd_540 : (.methodLink RXM 118 yXM_hereditary : Cond) ∈ W0 := List.mem_of_getElem? (i := 540) rfl
set_option maxRecDepth 100000 in
theorem wd_541 : (.methodLink RXM 121 yXM_best : Cond) ∈ W0 := List.mem_of_getElem? (i := 541) rfl
set_option maxRecDepth 100000 in
theorem wd_542 : (.instanceMethod yXM_best : Cond) ∈ W0 := List.mem_of_getElem? (i := 542) rfl
set_option maxRecDepth 100000 in
theorem wd_543 : (.code yXM_best cXM_best 6 (some .int) : Cond) ∈ W0 := List.mem_of_getElem? (i := 543) rfl
set_option maxRecDepth 100000 in
theorem wd_544 : (.methodLink RXL 98 yXM_chosen : Cond) ∈ W0 := List.mem_of_getElem? (i := 544) rfl
set_option maxRecDepth 100000 in
theorem wd_545 : (.instanceMethod yXM_chosen : Cond) ∈ W0 := List.mem_of_getElem? (i := 545) rfl
set_option maxRecDepth 100000 in
theorem wd_546 : (.selects RXM yXM_chosen yXM_chosen : Cond) ∈ W0 := List.mem_of_getElem? (i := 546) rfl
set_option maxRecDepth 100000 in
theorem wd_547 : (.code yXM_chosen cXM_chosen 2 (some .int) : Cond) ∈ W0 := List.mem_of_getElem? (i := 547) rfl
set_option maxRecDepth 100000 in
theorem wd_548 : (.methodLink RXL 102 yXM_cover : Cond) ∈ W0 := List.mem_of_getElem? (i := 548) rfl
set_option maxRecDepth 100000 in
theorem wd_549 : (.instanceMethod yXM_cover : Cond) ∈ W0 := List.mem_of_getElem? (i := 549) rfl
set_option maxRecDepth 100000 in
theorem wd_550 : (.selects RXM yXM_cover yXM_cover : Cond) ∈ W0 := List.mem_of_getElem? (i := 550) rfl
set_option maxRecDepth 100000 in
theorem wd_551 : (.code yXM_cover cXM_cover 6 (some .int) : Cond) ∈ W0 := List.mem_of_getElem? (i := 551) rfl
set_option maxRecDepth 100000 in
theorem wd_552 : (.methodLink RXM 125 yXM_clique : Cond) ∈ W0 := List.mem_of_getElem? (i := 552) rfl
set_option maxRecDepth 100000 in
theorem wd_553 : (.instanceMethod yXM_clique : Cond) ∈ W0 := List.mem_of_getElem? (i := 553) rfl
set_option maxRecDepth 100000 in
theorem wd_554 : (.code yXM_clique cXM_clique 3 (some .boolean) : Cond) ∈ W0 := List.mem_of_getElem? (i := 554) rfl
theorem hinXC : ∀ w ∈ wsXC0, w ∈ W0 := by
  intro w hw
  obtain ⟨k, hk, rfl⟩ := List.mem_map.mp hw
  have hk : k < 2 := List.mem_range.mp hk
  rcases (show k = 0 ∨ k = 1 by omega) with rfl | rfl
  · exact wd_117
  · exact wd_118
theorem hinXE : ∀ w ∈ wsXE0, w ∈ W0 := by
  intro w hw
  obtain ⟨k, hk, rfl⟩ := List.mem_map.mp hw
  have hk : k < 4 := List.mem_range.mp hk
  rcases (show k = 0 ∨ k = 1 ∨ k = 2 ∨ k = 3 by omega) with rfl | rfl | rfl | rfl
  · exact wd_104
  · exact wd_105
  · exact wd_106
  · exact wd_107
theorem hinXG : ∀ w ∈ wsXG0, w ∈ W0 := by
  intro w hw
  obtain ⟨k, hk, rfl⟩ := List.mem_map.mp hw
  have hk : k < 2 := List.mem_range.mp hk
  rcases (show k = 0 ∨ k = 1 by omega) with rfl | rfl
  · exact wd_60
  · exact wd_61
theorem hinXT : ∀ w ∈ wsXT0, w ∈ W0 := by
  intro w hw
  obtain ⟨k, hk, rfl⟩ := List.mem_map.mp hw
  have hk : k < 10 := List.mem_range.mp hk
  rcases (show k = 0 ∨ k = 1 ∨ k = 2 ∨ k = 3 ∨ k = 4 ∨ k = 5 ∨ k = 6 ∨ k = 7 ∨ k = 8 ∨ k = 9 by omega) with rfl | rfl | rfl | rfl | rfl | rfl | rfl | rfl | rfl | rfl
  · exact wd_83
  · exact wd_84
  · exact wd_85
  · exact wd_86
  · exact wd_87
  · exact wd_88
  · exact wd_89
  · exact wd_90
  · exact wd_91
  · exact wd_92
theorem hinXF : ∀ w ∈ wsXF0, w ∈ W0 := by
  intro w hw
  obtain ⟨k, hk, rfl⟩ := List.mem_map.mp hw
  have hk : k < 4 := List.mem_range.mp hk
  rcases (show k = 0 ∨ k = 1 ∨ k = 2 ∨ k = 3 by omega) with rfl | rfl | rfl | rfl
  · exact wd_123
  · exact wd_124
  · exact wd_125
  · exact wd_126
theorem hinXM : ∀ w ∈ wsXM0, w ∈ W0 := by
  intro w hw
  obtain ⟨k, hk, rfl⟩ := List.mem_map.mp hw
  have hk : k < 12 := List.mem_range.mp hk
  rcases (show k = 0 ∨ k = 1 ∨ k = 2 ∨ k = 3 ∨ k = 4 ∨ k = 5 ∨ k = 6 ∨ k = 7 ∨ k = 8 ∨ k = 9 ∨ k = 10 ∨ k = 11 by omega) with rfl | rfl | rfl | rfl | rfl | rfl | rfl | rfl | rfl | rfl | rfl | rfl
  · exact wd_401
  · exact wd_402
  · exact wd_403
  · exact wd_404
  · exact wd_405
  · exact wd_406
  · exact wd_407
  · exact wd_408
  · exact wd_409
  · exact wd_410
  · exact wd_411
  · exact wd_412
theorem gC {y : MethodName} {b : ByteArray} {n : Nat} {r : Option FieldType} (h : Cond.code y b n r ∈ W0) : GoodIn W0 (Cond.code y b n r :: W0) := fun w hw => W0g w (by
  rcases List.mem_cons.mp hw with rfl | hw
  · exact h
  · exact hw)
theorem gV {own C : String} {i : Nat} {y : MethodName} {b : ByteArray} {n : Nat} {r : Option FieldType} (h1 : Cond.methodLink own i y ∈ W0) (h2 : Cond.instanceMethod y ∈ W0) (h3 : Cond.selects C y y ∈ W0) (h4 : Cond.initialized C ∈ W0) (h : Cond.code y b n r ∈ W0) : GoodIn W0 (wsV own i C y (Cond.code y b n r :: W0)) := by
  intro w hw
  unfold wsV at hw
  rcases List.mem_append.mp hw with hw | hw
  · simp only [List.mem_cons, List.not_mem_nil, or_false] at hw
    rcases hw with rfl | rfl | rfl | rfl
    · exact W0g _ h1
    · exact W0g _ h2
    · exact W0g _ h3
    · exact W0g _ h4
  · exact gC h w hw
theorem gS {own : String} {i : Nat} {y : MethodName} {b : ByteArray} {n : Nat} {r : Option FieldType} (h1 : Cond.methodLink own i y ∈ W0) (h2 : Cond.static y ∈ W0) (h4 : Cond.initialized own ∈ W0) (h : Cond.code y b n r ∈ W0) : GoodIn W0 (wsS own i y (Cond.code y b n r :: W0)) := by
  intro w hw
  unfold wsS at hw
  rcases List.mem_append.mp hw with hw | hw
  · simp only [List.mem_cons, List.not_mem_nil, or_false] at hw
    rcases hw with rfl | rfl | rfl
    · exact W0g _ h1
    · exact W0g _ h2
    · exact W0g _ h4
  · exact gC h w hw
abbrev wsXF_init : List Cond := .code yXF_init cXF_init 2 none :: W0
abbrev wsXG_init : List Cond := .code yXG_init cXG_init 2 none :: W0
abbrev wsXT_init : List Cond := .code yXT_init cXT_init 2 none :: W0
abbrev wsXG_size : List Cond := .code yXG_size cXG_size 1 (some .int) :: W0
abbrev wsXE_init : List Cond := .code yXE_init cXE_init 2 none :: W0
abbrev wsXC_init : List Cond := .code yXC_init cXC_init 2 none :: W0
abbrev wsXF_vertices : List Cond := .code yXF_vertices cXF_vertices 1 (some .int) :: W0
abbrev wsXF_flip : List Cond := .code yXF_flip cXF_flip 3 (some .boolean) :: W0
abbrev wsXG_has : List Cond := .code yXG_has cXG_has 2 (some .boolean) :: W0
abbrev wsXG_toggle : List Cond := .code yXG_toggle cXG_toggle 3 none :: W0
abbrev wsXT_forget : List Cond := .code yXT_forget cXT_forget 1 none :: W0
abbrev wsXG_edge : List Cond := .code yXG_edge cXG_edge 3 (some .boolean) :: W0
abbrev wsXF_contains : List Cond := .code yXF_contains cXF_contains 2 (some .boolean) :: W0
abbrev wsXF_neighbours : List Cond := .code yXF_neighbours cXF_neighbours 3 (some .boolean) :: W0
abbrev wsXF_component : List Cond := .code yXF_component cXF_component 2 (some .int) :: W0
abbrev wsXF_componentOf : List Cond := .code yXF_componentOf cXF_componentOf 2 (some .int) :: W0
abbrev wsXG_all : List Cond := .code yXG_all cXG_all 1 (some .int) :: W0
abbrev wsXG_reached : List Cond := .code yXG_reached cXG_reached 6 (some .int) :: W0
abbrev wsXG_nearToAny : List Cond := .code yXG_nearToAny cXG_nearToAny 5 (some .int) :: W0
abbrev wsXF_splits : List Cond := .code yXF_splits cXF_splits 2 (some .int) :: W0
abbrev wsXF_treeOf : List Cond := .code yXF_treeOf cXF_treeOf 2 (some (.object "SplitForest$SplitTree")) :: W0
abbrev wsXT_growFor : List Cond := .code yXT_growFor cXT_growFor 2 none :: W0
abbrev wsXT_findSplits : List Cond := .code yXT_findSplits cXT_findSplits 3 none :: W0
abbrev wsXT_isSplit : List Cond := .code yXT_isSplit cXT_isSplit 6 (some .boolean) :: W0
abbrev wsXJ_bitCount : List Cond := .code yXJ_bitCount cXJ_bitCount 1 (some .int) :: W0
abbrev wsXG_nearInside : List Cond := .code yXG_nearInside cXG_nearInside 3 (some .int) :: W0
abbrev wsXT_findNodes : List Cond := .code yXT_findNodes cXT_findNodes 2 none :: W0
abbrev wsXT_isStrong : List Cond := .code yXT_isStrong cXT_isStrong 4 (some .boolean) :: W0
abbrev wsXT_splitCount : List Cond := .code yXT_splitCount cXT_splitCount 1 (some .int) :: W0
abbrev wsXF_strong : List Cond := .code yXF_strong cXF_strong 2 (some .int) :: W0
abbrev wsXT_nodeCount : List Cond := .code yXT_nodeCount cXT_nodeCount 1 (some .int) :: W0
abbrev wsXF_set : List Cond := .code yXF_set cXF_set 3 (some .int) :: W0
abbrev wsXF_hasNode : List Cond := .code yXF_hasNode cXF_hasNode 3 (some .boolean) :: W0
abbrev wsXT_nodeSet : List Cond := .code yXT_nodeSet cXT_nodeSet 2 (some .int) :: W0
abbrev wsXF_kind : List Cond := .code yXF_kind cXF_kind 3 (some .int) :: W0
abbrev wsXT_nodeKind : List Cond := .code yXT_nodeKind cXT_nodeKind 2 (some .int) :: W0
abbrev wsXT_findJoins : List Cond := .code yXT_findJoins cXT_findJoins 4 none :: W0
abbrev wsXT_findParts : List Cond := .code yXT_findParts cXT_findParts 5 none :: W0
abbrev wsXT_partWith : List Cond := .code yXT_partWith cXT_partWith 7 (some .int) :: W0
abbrev wsXT_addPart : List Cond := .code yXT_addPart cXT_addPart 3 none :: W0
abbrev wsXG_joined : List Cond := .code yXG_joined cXG_joined 3 (some .boolean) :: W0
abbrev wsXT_centreIndex : List Cond := .code yXT_centreIndex cXT_centreIndex 2 (some .int) :: W0
abbrev wsXF_parts : List Cond := .code yXF_parts cXF_parts 3 (some .int) :: W0
abbrev wsXT_partCount : List Cond := .code yXT_partCount cXT_partCount 2 (some .int) :: W0
abbrev wsXF_part : List Cond := .code yXF_part cXF_part 4 (some .int) :: W0
abbrev wsXT_partSet : List Cond := .code yXT_partSet cXT_partSet 3 (some .int) :: W0
abbrev wsXF_centre : List Cond := .code yXF_centre cXF_centre 3 (some .int) :: W0
abbrev wsXT_centreSet : List Cond := .code yXT_centreSet cXT_centreSet 2 (some .int) :: W0
abbrev wsXF_linked : List Cond := .code yXF_linked cXF_linked 3 (some .boolean) :: W0
abbrev wsXT_links : List Cond := .code yXT_links cXT_links 6 (some .boolean) :: W0
abbrev wsXF_hereditary : List Cond := .code yXF_hereditary cXF_hereditary 2 (some .boolean) :: W0
abbrev wsXE_clears : List Cond := .code yXE_clears cXE_clears 5 (some .boolean) :: W0
abbrev wsXE_run : List Cond := .code yXE_run cXE_run 3 none :: W0
abbrev wsXE_nextStep : List Cond := .code yXE_nextStep cXE_nextStep 3 (some .int) :: W0
abbrev wsXE_stepAt : List Cond := .code yXE_stepAt cXE_stepAt 6 (some .int) :: W0
abbrev wsXG_areTwins : List Cond := .code yXG_areTwins cXG_areTwins 5 (some .boolean) :: W0
abbrev wsXF_step : List Cond := .code yXF_step cXF_step 3 (some .int) :: W0
abbrev wsXE_stepOf : List Cond := .code yXE_stepOf cXE_stepOf 3 (some .int) :: W0
abbrev wsXF_obstruction : List Cond := .code yXF_obstruction cXF_obstruction 2 (some .int) :: W0
abbrev wsXE_obstructionIn : List Cond := .code yXE_obstructionIn cXE_obstructionIn 5 (some .int) :: W0
abbrev wsXF_obstacle : List Cond := .code yXF_obstacle cXF_obstacle 3 (some .int) :: W0
abbrev wsXG_edgesInside : List Cond := .code yXG_edgesInside cXG_edgesInside 4 (some .int) :: W0
abbrev wsXF_obstacleKind : List Cond := .code yXF_obstacleKind cXF_obstacleKind 2 (some .int) :: W0
abbrev wsXF_apart : List Cond := .code yXF_apart cXF_apart 2 (some .int) :: W0
abbrev wsXC_largestApart : List Cond := .code yXC_largestApart cXC_largestApart 4 (some .int) :: W0
abbrev wsXF_chosen : List Cond := .code yXF_chosen cXF_chosen 2 (some .int) :: W0
abbrev wsXF_cover : List Cond := .code yXF_cover cXF_cover 2 (some .int) :: W0
abbrev wsXC_fewestCliques : List Cond := .code yXC_fewestCliques cXC_fewestCliques 4 (some .int) :: W0
abbrev wsXC_coverWith : List Cond := .code yXC_coverWith cXC_coverWith 4 none :: W0
abbrev wsXC_fewestWith : List Cond := .code yXC_fewestWith cXC_fewestWith 6 (some .int) :: W0
abbrev wsXL_cell : List Cond := .code yXL_cell cXL_cell 2 (some .int) :: W0
abbrev wsXM_init : List Cond := .code yXM_init cXM_init 2 none :: W0
abbrev wsXM_vertices : List Cond := .code yXM_vertices cXM_vertices 1 (some .int) :: W0
abbrev wsXM_flip : List Cond := .code yXM_flip cXM_flip 3 (some .boolean) :: W0
abbrev wsXM_is : List Cond := .code yXM_is cXM_is 2 (some .boolean) :: W0
abbrev wsXM_neighbours : List Cond := .code yXM_neighbours cXM_neighbours 3 (some .boolean) :: W0
abbrev wsXM_component : List Cond := .code yXM_component cXM_component 2 (some .int) :: W0
abbrev wsXM_within : List Cond := .code yXM_within cXM_within 6 (some .int) :: W0
abbrev wsXM_splits : List Cond := .code yXM_splits cXM_splits 2 (some .int) :: W0
abbrev wsXM_find : List Cond := .code yXM_find cXM_find 6 none :: W0
abbrev wsXM_least : List Cond := .code yXM_least cXM_least 2 (some .int) :: W0
abbrev wsXM_size : List Cond := .code yXM_size cXM_size 3 (some .int) :: W0
abbrev wsXM_complete : List Cond := .code yXM_complete cXM_complete 7 (some .boolean) :: W0
abbrev wsXM_cross : List Cond := .code yXM_cross cXM_cross 2 (some .boolean) :: W0
abbrev wsXM_strong : List Cond := .code yXM_strong cXM_strong 2 (some .int) :: W0
abbrev wsXM_set : List Cond := .code yXM_set cXM_set 3 (some .int) :: W0
abbrev wsXM_nodeSet : List Cond := .code yXM_nodeSet cXM_nodeSet 4 (some .int) :: W0
abbrev wsXM_kind : List Cond := .code yXM_kind cXM_kind 4 (some .int) :: W0
abbrev wsXM_open : List Cond := .code yXM_open cXM_open 6 (some .boolean) :: W0
abbrev wsXM_isPart : List Cond := .code yXM_isPart cXM_isPart 10 (some .boolean) :: W0
abbrev wsXM_inside : List Cond := .code yXM_inside cXM_inside 2 (some .boolean) :: W0
abbrev wsXM_middle : List Cond := .code yXM_middle cXM_middle 4 (some .int) :: W0
abbrev wsXM_links : List Cond := .code yXM_links cXM_links 4 (some .int) :: W0
abbrev wsXM_joined : List Cond := .code yXM_joined cXM_joined 5 (some .boolean) :: W0
abbrev wsXM_parts : List Cond := .code yXM_parts cXM_parts 3 (some .int) :: W0
abbrev wsXM_part : List Cond := .code yXM_part cXM_part 4 (some .int) :: W0
abbrev wsXM_centre : List Cond := .code yXM_centre cXM_centre 4 (some .int) :: W0
abbrev wsXM_linked : List Cond := .code yXM_linked cXM_linked 9 (some .boolean) :: W0
abbrev wsXM_partOf : List Cond := .code yXM_partOf cXM_partOf 4 (some .int) :: W0
abbrev wsXM_hereditary : List Cond := .code yXM_hereditary cXM_hereditary 2 (some .boolean) :: W0
abbrev wsXM_fine : List Cond := .code yXM_fine cXM_fine 4 (some .boolean) :: W0
abbrev wsXM_eliminate : List Cond := .code yXM_eliminate cXM_eliminate 5 none :: W0
abbrev wsXM_way : List Cond := .code yXM_way cXM_way 7 (some .int) :: W0
abbrev wsXM_step : List Cond := .code yXM_step cXM_step 3 (some .int) :: W0
abbrev wsXM_obstruction : List Cond := .code yXM_obstruction cXM_obstruction 5 (some .int) :: W0
abbrev wsXM_obstacle : List Cond := .code yXM_obstacle cXM_obstacle 5 (some .int) :: W0
abbrev wsXM_edges : List Cond := .code yXM_edges cXM_edges 4 (some .int) :: W0
abbrev wsXM_apart : List Cond := .code yXM_apart cXM_apart 2 (some .int) :: W0
abbrev wsXM_best : List Cond := .code yXM_best cXM_best 6 (some .int) :: W0
abbrev wsXM_chosen : List Cond := .code yXM_chosen cXM_chosen 2 (some .int) :: W0
abbrev wsXM_cover : List Cond := .code yXM_cover cXM_cover 6 (some .int) :: W0
abbrev wsXM_clique : List Cond := .code yXM_clique cXM_clique 3 (some .boolean) :: W0
/-- the links of nest mates: they stand in the contracts -/
def kN (U : State) : Prop := va_Nw (.methodLinkNest RXG 17 yXF_contains "SplitForest") U ∧ va_Nw (.methodLinkNest RXT 86 yXF_contains "SplitForest") U ∧ va_Nw (.methodLinkNest RXE 33 yXF_contains "SplitForest") U ∧ va_Nw (.methodLinkNest RXC 33 yXF_contains "SplitForest") U
theorem kN_same {u U : State} (h : u.vm = U.vm) (z : kN u) : kN U := ⟨va_Nw.same rfl h z.1, va_Nw.same rfl h z.2.1, va_Nw.same rfl h z.2.2.1, va_Nw.same rfl h z.2.2.2⟩
theorem kN_warm {s U : State} (h : s.WarmedH U.vm) (z : kN s) : kN U := ⟨va_Nw.warmM h z.1, va_Nw.warmM h z.2.1, va_Nw.warmM h z.2.2.1, va_Nw.warmM h z.2.2.2⟩
theorem kN_of {a : Array Value} {s : State} (h : ∀ w ∈ lw_tbl, w.before a s = true) : kN s := ⟨va_Nw.of rfl (h (.methodLinkNest RXG 17 yXF_contains "SplitForest") (by decide +kernel)), va_Nw.of rfl (h (.methodLinkNest RXT 86 yXF_contains "SplitForest") (by decide +kernel)), va_Nw.of rfl (h (.methodLinkNest RXE 33 yXF_contains "SplitForest") (by decide +kernel)), va_Nw.of rfl (h (.methodLinkNest RXC 33 yXF_contains "SplitForest") (by decide +kernel))⟩
